/-- forms with i bytes of bs laid from b on -/
def cpF (F : Nat → Nat) (b : Nat) (bs : List Nat) (i : Nat) : Nat → Nat := fun k => if b ≤ k ∧ k < b + i then bs.getD (k - b) 0 else F k
theorem cpF_0 {F : Nat → Nat} {b : Nat} {bs : List Nat} : cpF F b bs 0 = F := by funext k; unfold cpF; rw [if_neg (by omega)]
theorem cpF_s {F : Nat → Nat} {b i x : Nat} {bs : List Nat} (h : x = bs.getD i 0) : updN (cpF F b bs i) (b + i) x = cpF F b bs (i + 1) := by
  funext k
  unfold updN
  by_cases hk : k = b + i
  · subst hk
    rw [if_pos rfl]
    unfold cpF
    rw [if_pos (by omega), h, Nat.add_sub_cancel_left]
  · rw [if_neg hk]
    unfold cpF
    by_cases h2 : b ≤ k ∧ k < b + i
    · rw [if_pos h2, if_pos (by omega)]
    · rw [if_neg h2, if_neg (by omega)]
theorem cpF_at {F : Nat → Nat} {b : Nat} {bs : List Nat} : fAt (cpF F b bs bs.length) b bs := fun k hk => by unfold cpF; rw [if_pos (by omega), Nat.add_sub_cancel_left]
theorem cpF_o {F : Nat → Nat} {b i k : Nat} {bs : List Nat} (h : k < b ∨ b + i ≤ k) : cpF F b bs i k = F k := by unfold cpF; rw [if_neg (by omega)]
theorem cpF_lt {F : Nat → Nat} {b i : Nat} {bs : List Nat} (hF : ∀ k, F k < 256) (hb : ∀ k, k < i → bs.getD k 0 < 256) : ∀ k, cpF F b bs i k < 256 := fun k => by
  unfold cpF
  split
  · exact hb _ (by omega)
  · exact hF k
abbrev b_M_keep : ByteArray := prog_12_method_31_code
abbrev y_M_keep : MethodName := ⟨"ValueTreesModel", "keep", "(II)I"⟩
abbrev w_M_keep : List Cond := .code y_M_keep b_M_keep 4 (Option.some .int) :: gt
theorem hd_M_keep : (y_M_keep).cls ≠ "java/lang/invoke/MethodHandle" ∧ (y_M_keep).cls ≠ "java/lang/invoke/VarHandle" ∧ (parseMethodDescriptor (y_M_keep).desc).map (fun d => d.parameters.length) = some 2 := by decide +kernel
theorem d_M_keep_0 : decode b_M_keep 0 = .ok (.aload_n 0, 1) := by decide +kernel
theorem d_M_keep_1 : decode b_M_keep 1 = .ok (.getfield 98, 3) := by decide +kernel
theorem d_M_keep_4 : decode b_M_keep 4 = .ok (.sipush 160, 3) := by decide +kernel
theorem d_M_keep_7 : decode b_M_keep 7 = .ok (.if_icmp .le 6, 3) := by decide +kernel
theorem d_M_keep_10 : decode b_M_keep 10 = .ok (.bipush (-2), 2) := by decide +kernel
theorem d_M_keep_12 : decode b_M_keep 12 = .ok (.ireturn, 1) := by decide +kernel
theorem d_M_keep_13 : decode b_M_keep 13 = .ok (.iconst 0, 1) := by decide +kernel
theorem d_M_keep_14 : decode b_M_keep 14 = .ok (.istore_n 3, 1) := by decide +kernel
theorem d_M_keep_15 : decode b_M_keep 15 = .ok (.iload_n 3, 1) := by decide +kernel
theorem d_M_keep_16 : decode b_M_keep 16 = .ok (.aload_n 0, 1) := by decide +kernel
theorem d_M_keep_17 : decode b_M_keep 17 = .ok (.getfield 98, 3) := by decide +kernel
theorem d_M_keep_20 : decode b_M_keep 20 = .ok (.if_icmp .ge 26, 3) := by decide +kernel
theorem d_M_keep_23 : decode b_M_keep 23 = .ok (.aload_n 0, 1) := by decide +kernel
theorem d_M_keep_24 : decode b_M_keep 24 = .ok (.getfield 22, 3) := by decide +kernel
theorem d_M_keep_27 : decode b_M_keep 27 = .ok (.iload_n 1, 1) := by decide +kernel
theorem d_M_keep_28 : decode b_M_keep 28 = .ok (.invokestatic 112, 3) := by decide +kernel
theorem d_M_keep_31 : decode b_M_keep 31 = .ok (.iload_n 3, 1) := by decide +kernel
theorem d_M_keep_32 : decode b_M_keep 32 = .ok (.iadd, 1) := by decide +kernel
theorem d_M_keep_33 : decode b_M_keep 33 = .ok (.aload_n 0, 1) := by decide +kernel
theorem d_M_keep_34 : decode b_M_keep 34 = .ok (.getfield 29, 3) := by decide +kernel
theorem d_M_keep_37 : decode b_M_keep 37 = .ok (.iload_n 3, 1) := by decide +kernel
theorem d_M_keep_38 : decode b_M_keep 38 = .ok (.baload, 1) := by decide +kernel
theorem d_M_keep_39 : decode b_M_keep 39 = .ok (.bastore, 1) := by decide +kernel
theorem d_M_keep_40 : decode b_M_keep 40 = .ok (.iinc 3 1, 3) := by decide +kernel
theorem d_M_keep_43 : decode b_M_keep 43 = .ok (.goto (-28), 3) := by decide +kernel
theorem d_M_keep_46 : decode b_M_keep 46 = .ok (.aload_n 0, 1) := by decide +kernel
theorem d_M_keep_47 : decode b_M_keep 47 = .ok (.getfield 26, 3) := by decide +kernel
theorem d_M_keep_50 : decode b_M_keep 50 = .ok (.iload_n 1, 1) := by decide +kernel
theorem d_M_keep_51 : decode b_M_keep 51 = .ok (.aload_n 0, 1) := by decide +kernel
theorem d_M_keep_52 : decode b_M_keep 52 = .ok (.getfield 98, 3) := by decide +kernel
theorem d_M_keep_55 : decode b_M_keep 55 = .ok (.iastore, 1) := by decide +kernel
theorem d_M_keep_56 : decode b_M_keep 56 = .ok (.aload_n 0, 1) := by decide +kernel
theorem d_M_keep_57 : decode b_M_keep 57 = .ok (.getfield 19, 3) := by decide +kernel
theorem d_M_keep_60 : decode b_M_keep 60 = .ok (.iload_n 1, 1) := by decide +kernel
theorem d_M_keep_61 : decode b_M_keep 61 = .ok (.iload_n 2, 1) := by decide +kernel
theorem d_M_keep_62 : decode b_M_keep 62 = .ok (.iastore, 1) := by decide +kernel
theorem d_M_keep_63 : decode b_M_keep 63 = .ok (.aload_n 0, 1) := by decide +kernel
theorem d_M_keep_64 : decode b_M_keep 64 = .ok (.getfield 98, 3) := by decide +kernel
theorem d_M_keep_67 : decode b_M_keep 67 = .ok (.ireturn, 1) := by decide +kernel
set_option maxHeartbeats 4000000 in
set_option maxRecDepth 100000 in
theorem c_M_keep (l : Launch) (D : va_G) (dT : Nat → ClassId) (H : Heap) (mm : Nat → Nat) (wd lf rt : Nat → Int32) (tc : Nat) (ty : Nat → Int32) (F : Nat → Nat) (sz : Nat → Int32) (Wk : Nat → Nat) (bs : List Nat) (dg : Nat → Nat) (dc : Nat) (sh : Nat → Nat) (hM : mAt D dT mm wd lf rt tc ty F sz Wk bs.length dg dc sh H) (hW : wAt Wk bs) (j t : Nat) (hj : j < 16) (hbl : bs.length < 2000) : Met l y_M_keep w_M_keep ({ frames := 1, cells := 0, slots := 0, locals := 20 }) (z_P D dT [.ref (mm 0), .int (nI j), .int (nI t)] H) (z_Q (mA mm) (fun v H1 => (160 < bs.length ∧ v = some (.int (-2)) ∧ mAt D dT mm wd lf rt tc ty F sz Wk bs.length dg dc sh H1) ∨ (bs.length ≤ 160 ∧ v = some (.int (nI bs.length)) ∧ mAt D dT mm wd lf rt tc (upd ty j (nI t)) (cpF F (160 * j) bs bs.length) (upd sz j (nI bs.length)) Wk bs.length dg dc sh H1))) 0 0 (mA mm) := by
  refine Met.ofW (cc := b_M_keep) (maxL := 4) (ret := (Option.some .int)) (by decide) rfl ?_
  intro p e s m args below meth c s₁ B hml hv
  obtain ⟨rfl, rfl, hK⟩ := hv
  have hx := B.exec
  have hb := B.bytes
  have hr := B.returns
  have hts := atoms_spec (ws := w_M_keep) B.pre
  have ht : ∀ w9 ∈ gt, w9.before [.ref (mm 0), .int (nI j), .int (nI t)].toArray s = true := fun w9 h => hts w9 (List.mem_cons_of_mem _ h)
  have hown : s.vm.findClass "ValueTreesModel" = some m.cls := findClass_of_methodNamed B.named
  have hlocks := B.notSynchronized
  have hS : va_S (mA mm) s.heap s.heap [] := va_S.rf
  have hl := lv_entry ([.ref (mm 0), .int (nI j), .int (nI t)]) (n := 4) (Nat.le_of_ble_eq_true rfl)
  rw [lg_entry_eq]
  generalize (lg_sl ([.ref (mm 0), .int (nI j), .int (nI t)]) ++ List.replicate (4 - (lg_sl ([.ref (mm 0), .int (nI j), .int (nI t)])).length) Slot.unset).toArray = ls at hl ⊢
  have hl : lv_has ls 4 [(0, .ref (mm 0)), (1, .int (nI j)), (2, .int (nI t))] := hl
  refine lv_aload_n hx hb d_M_keep_0 rfl (lv_at hl 0 rfl) ?_
  refine va_get (D := D) (ci := 10) (v := .int (nI bs.length)) (C := "ValueTreesModel") (T := T_M) (N := 12) hx hb ht in_M hown hK.1 hM.1 0 rfl rfl 8 (by decide) (ht _ q547) (fun _ h9 => h9) rfl d_M_keep_1 ?_
  refine lv_sipush (v := 160) hx hb d_M_keep_4 (by decide) ?_
  refine lv_icmp_le (tgt := 13) hx hb d_M_keep_7 (by decide) (fun c1 => ?_) (fun c1 => ?_)
  · have nc1 : bs.length ≤ 160 := (nI_leI (a := bs.length) (b := 160) (by omega) (by omega)).mp c1
    refine lv_iconst (v := 0) hx hb d_M_keep_13 (by decide) ?_
    refine lv_istore_n (lv' := [(3, .int 0), (0, .ref (mm 0)), (1, .int (nI j)), (2, .int (nI t))]) hx hb d_M_keep_14 rfl hl (by decide) rfl (fun ls hl => ?_)
    have hM : mAt D dT mm wd lf rt tc ty (cpF F (160 * j) bs 0) sz Wk bs.length dg dc sh s.heap := by rw [cpF_0]; exact hM
    have loop2 : ∀ (n159 : Nat) (i : Nat), (i ≤ bs.length) → bs.length - i < n159 → ∀ (H : Heap) (locs : List Loc), mAt D dT mm wd lf rt tc ty (cpF F (160 * j) bs i) sz Wk bs.length dg dc sh H → va_S (mA mm) s.heap H locs → ∀ (ls : Array Slot), lv_has ls 4 [(3, .int (nI i)), (0, .ref (mm 0)), (1, .int (nI j)), (2, .int (nI t))] → W p l e (headSpec w_M_keep ({ frames := 1, cells := 0, slots := 0, locals := 20 })).room s m [.ref (mm 0), .int (nI j), .int (nI t)].toArray below meth c H locs 0 0 (MQ below (z_Q (mA mm) (fun v H1 => (160 < bs.length ∧ v = some (.int (-2)) ∧ mAt D dT mm wd lf rt tc ty F sz Wk bs.length dg dc sh H1) ∨ (bs.length ≤ 160 ∧ v = some (.int (nI bs.length)) ∧ mAt D dT mm wd lf rt tc (upd ty j (nI t)) (cpF F (160 * j) bs bs.length) (upd sz j (nI bs.length)) Wk bs.length dg dc sh H1))) [.ref (mm 0), .int (nI j), .int (nI t)].toArray s 0 0 (mA mm)) (F0 m 15 ls []) := by
      intro n159
      induction n159 with
      | zero =>
        intro i hi h159
        exact absurd h159 (Nat.not_lt_zero _)
      | succ n159 ih15 =>
        intro i hi h159 H locs hM hS ls hl
        refine lv_iload_n hx hb d_M_keep_15 rfl (lv_at hl 0 rfl) ?_
        refine lv_aload_n hx hb d_M_keep_16 rfl (lv_at hl 1 rfl) ?_
        refine va_get (D := D) (ci := 10) (v := .int (nI bs.length)) (C := "ValueTreesModel") (T := T_M) (N := 12) hx hb ht in_M hown hK.1 hM.1 0 rfl rfl 8 (by decide) (ht _ q547) (fun _ h9 => h9) rfl d_M_keep_17 ?_
        refine lv_icmp_ge (tgt := 46) hx hb d_M_keep_20 (by decide) (fun c3 => ?_) (fun c3 => ?_)
        · have nc3 : bs.length ≤ i := (nI_leI (a := bs.length) (b := i) (by omega) (by omega)).mp c3
          have e9 : i = bs.length := by omega
          subst e9
          refine lv_aload_n hx hb d_M_keep_46 rfl (lv_at hl 1 rfl) ?_
          refine va_get (D := D) (ci := 10) (v := .ref (mm 6)) (C := "ValueTreesModel") (T := T_M) (N := 12) hx hb ht in_M hown hK.1 hM.1 0 rfl rfl 6 (by decide) (ht _ q545) (fun _ h9 => h9) rfl d_M_keep_47 ?_
          refine lv_iload_n hx hb d_M_keep_50 rfl (lv_at hl 2 rfl) ?_
          refine lv_aload_n hx hb d_M_keep_51 rfl (lv_at hl 1 rfl) ?_
          refine va_get (D := D) (ci := 10) (v := .int (nI bs.length)) (C := "ValueTreesModel") (T := T_M) (N := 12) hx hb ht in_M hown hK.1 hM.1 0 rfl rfl 8 (by decide) (ht _ q547) (fun _ h9 => h9) rfl d_M_keep_52 ?_
          refine m_ast_sz hx hb hK hM hS j rfl (by omega) d_M_keep_55 (fun H locs hM hS => ?_)
          have hM : mAt D dT mm wd lf rt tc ty (cpF F (160 * j) bs bs.length) (upd sz j (nI bs.length)) Wk bs.length dg dc sh H := hM
          refine lv_aload_n hx hb d_M_keep_56 rfl (lv_at hl 1 rfl) ?_
          refine va_get (D := D) (ci := 10) (v := .ref (mm 4)) (C := "ValueTreesModel") (T := T_M) (N := 12) hx hb ht in_M hown hK.1 hM.1 0 rfl rfl 4 (by decide) (ht _ q543) (fun _ h9 => h9) rfl d_M_keep_57 ?_
          refine lv_iload_n hx hb d_M_keep_60 rfl (lv_at hl 2 rfl) ?_
          refine lv_iload_n hx hb d_M_keep_61 rfl (lv_at hl 3 rfl) ?_
          refine m_ast_ty hx hb hK hM hS j rfl (by omega) d_M_keep_62 (fun H locs hM hS => ?_)
          have hM : mAt D dT mm wd lf rt tc (upd ty j (nI t)) (cpF F (160 * j) bs bs.length) (upd sz j (nI bs.length)) Wk bs.length dg dc sh H := hM
          refine lv_aload_n hx hb d_M_keep_63 rfl (lv_at hl 1 rfl) ?_
          refine va_get (D := D) (ci := 10) (v := .int (nI bs.length)) (C := "ValueTreesModel") (T := T_M) (N := 12) hx hb ht in_M hown hK.1 hM.1 0 rfl rfl 8 (by decide) (ht _ q547) (fun _ h9 => h9) rfl d_M_keep_64 ?_
          exact z_iretQ hx hb hr hlocks d_M_keep_67 hS (Nat.le_refl _) (Nat.le_refl _) (Or.inr ⟨by omega, rfl, hM⟩)
        · have nc3 : ¬ bs.length ≤ i := fun h9 => c3 ((nI_leI (a := bs.length) (b := i) (by omega) (by omega)).mpr h9)
          refine lv_aload_n hx hb d_M_keep_23 rfl (lv_at hl 1 rfl) ?_
          refine va_get (D := D) (ci := 10) (v := .ref (mm 5)) (C := "ValueTreesModel") (T := T_M) (N := 12) hx hb ht in_M hown hK.1 hM.1 0 rfl rfl 5 (by decide) (ht _ q544) (fun _ h9 => h9) rfl d_M_keep_24 ?_
          refine lv_iload_n hx hb d_M_keep_27 rfl (lv_at hl 2 rfl) ?_
          refine z_callR (va_runS (As := [.int (nI j)]) (rest := [.ref (mm 5)]) ⟨hx, hb, hml, hown, hts⟩ (c_M_base l D dT _ (nI j)) ⟨callB_of 1 hts (gI gd_up gd_c q650) rfl rfl rfl (ht _ q10) (ht _ q648) hd_M_base ⟨Nat.le_of_ble_eq_true rfl, Nat.le_of_ble_eq_true rfl⟩, ht _ q649⟩ (z_preS hK) rfl rfl hl.1 rfl (lv_room (Nat.le_of_ble_eq_true rfl)) d_M_keep_28 ⟨Nat.zero_le _, Nat.zero_le _⟩) (fun v5 hv4 => ?_)
          subst hv4
          rw [show (160 * nI j : Int32) = nI (160 * j) from pk_mul 160 j]
          refine lv_iload_n hx hb d_M_keep_31 rfl (lv_at hl 0 rfl) ?_
          refine lv_iadd hx hb d_M_keep_32 ?_
          rw [show (((nI (160 * j)) + (nI i)) : Int32) = nI ((160 * j) + i) from nI_add (160 * j) i]
          refine lv_aload_n hx hb d_M_keep_33 rfl (lv_at hl 1 rfl) ?_
          refine va_get (D := D) (ci := 10) (v := .ref (mm 7)) (C := "ValueTreesModel") (T := T_M) (N := 12) hx hb ht in_M hown hK.1 hM.1 0 rfl rfl 7 (by decide) (ht _ q546) (fun _ h9 => h9) rfl d_M_keep_34 ?_
          refine lv_iload_n hx hb d_M_keep_37 rfl (lv_at hl 0 rfl) ?_
          refine z_bald hx hb hK (hM.1 7 _ rfl) i rfl (by omega) (by decide) d_M_keep_38 ?_
          refine m_ast_F hx hb hK hM hS ((160 * j) + i) rfl (by omega) (Wk i) (nar_by8' _) d_M_keep_39 (fun H locs hM hS => ?_)
          have hM : mAt D dT mm wd lf rt tc ty (updN (cpF F (160 * j) bs i) ((160 * j) + i) (Wk i)) sz Wk bs.length dg dc sh H := hM
          refine lv_iinc (v := (nI (i + 1))) (lv' := [(3, .int (nI (i + 1))), (0, .ref (mm 0)), (1, .int (nI j)), (2, .int (nI t))]) hx hb d_M_keep_40 hl (k := 0) rfl (nI_1 i) (by decide) rfl (fun ls hl => ?_)
          refine lv_goto (tgt := 15) hx hb d_M_keep_43 (by decide) ?_
          rw [cpF_s (hW.2 i (by omega) (by omega))] at hM
          exact ih15 (i + 1) (by omega) (by omega) _ _ hM hS ls (lv_sub hl [0, 1, 2, 3] rfl)
    exact loop2 (bs.length + 1) 0 (by omega) (by omega) _ _ hM hS ls (lv_sub hl [0, 1, 2, 3] rfl)
  · have nc1 : ¬ bs.length ≤ 160 := fun h9 => c1 ((nI_leI (a := bs.length) (b := 160) (by omega) (by omega)).mpr h9)
    refine lv_bipush (v := (-2)) hx hb d_M_keep_10 (by decide) ?_
    exact z_iretQ hx hb hr hlocks d_M_keep_12 hS (Nat.le_refl _) (Nat.le_refl _) (Or.inl ⟨by omega, rfl, hM⟩)
