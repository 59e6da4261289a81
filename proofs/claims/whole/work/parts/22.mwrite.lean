/-- a function changed at one place -/
def updN (f : Nat → Nat) (j b : Nat) : Nat → Nat := fun k => if k = j then b else f k
theorem updN_s {f : Nat → Nat} {j b : Nat} : updN f j b j = b := if_pos rfl
theorem updN_n {f : Nat → Nat} {j b k : Nat} (h : k ≠ j) : updN f j b k = f k := if_neg h
theorem upd_s {f : Nat → Int32} {j : Nat} {b : Int32} : upd f j b j = b := if_pos rfl
theorem upd_n {f : Nat → Int32} {j k : Nat} {b : Int32} (h : k ≠ j) : upd f j b k = f k := if_neg h
theorem updN_nI (f : Nat → Nat) (j b : Nat) : upd (fun k => nI (f k)) j (nI b) = fun k => nI (updN f j b k) := by
  funext k; unfold upd updN; by_cases h : k = j <;> simp [h]
theorem updN_by8 (f : Nat → Nat) (j b : Nat) : upd (fun k => by8 (f k)) j (by8 b) = fun k => by8 (updN f j b k) := by
  funext k; unfold upd updN; by_cases h : k = j <;> simp [h]
theorem by8_mod (n : Nat) : by8 (n % 256) = by8 n := by
  unfold by8
  congr 1
  apply Int8.toBitVec_inj.mp
  rw [Int32.toBitVec_toInt8, Int32.toBitVec_toInt8, BitVec.signExtend_eq_setWidth_of_le _ (by decide), BitVec.signExtend_eq_setWidth_of_le _ (by decide)]
  have e : ∀ k : Nat, (nI k).toBitVec = BitVec.ofNat 32 k := fun _ => rfl
  rw [e, e]
  apply BitVec.eq_of_toNat_eq
  simp [BitVec.toNat_setWidth, BitVec.toNat_ofNat]
theorem nar_by8 (n : Nat) : vp_nar .byte (nI n).toInt8.toInt32 = by8 n := pk_vb (nI n)
theorem nar_by8' (n : Nat) : vp_nar .byte (by8 n) = by8 n := pk_vb (nI n)
section MWR
variable {p : Program} {l : Launch} {e : Env} {R : Room} {s : State} {m : MethodId} {args : Array Value} {below : List Frame} {meth : Method} {c : Code} {H : Heap} {locs : List Loc} {cells slots : Nat} {Q : State → Prop}
variable {cc : ByteArray} {pc : Nat} {ls : Array Slot} {rest : List Value} {D : va_G} {dT : Nat → ClassId} {H0 : Heap} {mm : Nat → Nat} {wd lf rt : Nat → Int32} {tc : Nat} {ty : Nat → Int32} {F : Nat → Nat} {sz : Nat → Int32} {Wk : Nat → Nat} {wz : Nat} {dg : Nat → Nat} {dc : Nat} {sh : Nat → Nat}

theorem m_ast_wd (hx : p.tables.exec = Jvm.exec) (hb : c.code = cc) (hK : z_K D dT s) (hM : mAt D dT mm wd lf rt tc ty F sz Wk wz dg dc sh H) (hS : va_S (mA mm) H0 H locs) {i x : Int32} (j : Nat) (hij : i = nI j) (hj : j < 2000) (hdg : decode cc pc = .ok (.iastore, 1))
    (kk : ∀ (H1 : Heap) (locs1 : List Loc), mAt D dT mm (upd wd j x) lf rt tc ty F sz Wk wz dg dc sh H1 → va_S (mA mm) H0 H1 locs1 → W p l e R s m args below meth c H1 locs1 cells slots Q (F0 m (pc + 1) ls rest)) : W p l e R s m args below meth c H locs cells slots Q (F0 m pc ls (.int x :: .int i :: .ref (mm 1) :: rest)) := by
  subst hij
  refine va_iast hx hb hK.1 hM.1 hM.2 hS 1 0 rfl rfl (vp_in_nI hj (by decide)) hdg (fun H1 locs1 hP hD hS => ?_)
  rw [nI_clamp (by omega)] at hP hD
  exact kk H1 locs1 ⟨hP, hD⟩ hS
theorem m_ast_lf (hx : p.tables.exec = Jvm.exec) (hb : c.code = cc) (hK : z_K D dT s) (hM : mAt D dT mm wd lf rt tc ty F sz Wk wz dg dc sh H) (hS : va_S (mA mm) H0 H locs) {i x : Int32} (j : Nat) (hij : i = nI j) (hj : j < 2000) (hdg : decode cc pc = .ok (.iastore, 1))
    (kk : ∀ (H1 : Heap) (locs1 : List Loc), mAt D dT mm wd (upd lf j x) rt tc ty F sz Wk wz dg dc sh H1 → va_S (mA mm) H0 H1 locs1 → W p l e R s m args below meth c H1 locs1 cells slots Q (F0 m (pc + 1) ls rest)) : W p l e R s m args below meth c H locs cells slots Q (F0 m pc ls (.int x :: .int i :: .ref (mm 2) :: rest)) := by
  subst hij
  refine va_iast hx hb hK.1 hM.1 hM.2 hS 2 0 rfl rfl (vp_in_nI hj (by decide)) hdg (fun H1 locs1 hP hD hS => ?_)
  rw [nI_clamp (by omega)] at hP hD
  exact kk H1 locs1 ⟨hP, hD⟩ hS
theorem m_ast_rt (hx : p.tables.exec = Jvm.exec) (hb : c.code = cc) (hK : z_K D dT s) (hM : mAt D dT mm wd lf rt tc ty F sz Wk wz dg dc sh H) (hS : va_S (mA mm) H0 H locs) {i x : Int32} (j : Nat) (hij : i = nI j) (hj : j < 2000) (hdg : decode cc pc = .ok (.iastore, 1))
    (kk : ∀ (H1 : Heap) (locs1 : List Loc), mAt D dT mm wd lf (upd rt j x) tc ty F sz Wk wz dg dc sh H1 → va_S (mA mm) H0 H1 locs1 → W p l e R s m args below meth c H1 locs1 cells slots Q (F0 m (pc + 1) ls rest)) : W p l e R s m args below meth c H locs cells slots Q (F0 m pc ls (.int x :: .int i :: .ref (mm 3) :: rest)) := by
  subst hij
  refine va_iast hx hb hK.1 hM.1 hM.2 hS 3 0 rfl rfl (vp_in_nI hj (by decide)) hdg (fun H1 locs1 hP hD hS => ?_)
  rw [nI_clamp (by omega)] at hP hD
  exact kk H1 locs1 ⟨hP, hD⟩ hS
theorem m_ast_ty (hx : p.tables.exec = Jvm.exec) (hb : c.code = cc) (hK : z_K D dT s) (hM : mAt D dT mm wd lf rt tc ty F sz Wk wz dg dc sh H) (hS : va_S (mA mm) H0 H locs) {i x : Int32} (j : Nat) (hij : i = nI j) (hj : j < 16) (hdg : decode cc pc = .ok (.iastore, 1))
    (kk : ∀ (H1 : Heap) (locs1 : List Loc), mAt D dT mm wd lf rt tc (upd ty j x) F sz Wk wz dg dc sh H1 → va_S (mA mm) H0 H1 locs1 → W p l e R s m args below meth c H1 locs1 cells slots Q (F0 m (pc + 1) ls rest)) : W p l e R s m args below meth c H locs cells slots Q (F0 m pc ls (.int x :: .int i :: .ref (mm 4) :: rest)) := by
  subst hij
  refine va_iast hx hb hK.1 hM.1 hM.2 hS 4 0 rfl rfl (vp_in_nI hj (by decide)) hdg (fun H1 locs1 hP hD hS => ?_)
  rw [nI_clamp (by omega)] at hP hD
  exact kk H1 locs1 ⟨hP, hD⟩ hS
theorem m_ast_F (hx : p.tables.exec = Jvm.exec) (hb : c.code = cc) (hK : z_K D dT s) (hM : mAt D dT mm wd lf rt tc ty F sz Wk wz dg dc sh H) (hS : va_S (mA mm) H0 H locs) {i x : Int32} (j : Nat) (hij : i = nI j) (hj : j < 2560) (b : Nat) (hxb : vp_nar .byte x = by8 b) (hdg : decode cc pc = .ok (.bastore, 1))
    (kk : ∀ (H1 : Heap) (locs1 : List Loc), mAt D dT mm wd lf rt tc ty (updN F j b) sz Wk wz dg dc sh H1 → va_S (mA mm) H0 H1 locs1 → W p l e R s m args below meth c H1 locs1 cells slots Q (F0 m (pc + 1) ls rest)) : W p l e R s m args below meth c H locs cells slots Q (F0 m pc ls (.int x :: .int i :: .ref (mm 5) :: rest)) := by
  subst hij
  refine va_bast hx hb hK.1 hM.1 hM.2 hS 5 1 rfl rfl (vp_in_nI hj (by decide)) hdg (fun H1 locs1 hP hD hS => ?_)
  rw [nI_clamp (by omega)] at hP hD
  rw [hxb, updN_by8] at hP hD
  exact kk H1 locs1 ⟨hP, hD⟩ hS
theorem m_ast_sz (hx : p.tables.exec = Jvm.exec) (hb : c.code = cc) (hK : z_K D dT s) (hM : mAt D dT mm wd lf rt tc ty F sz Wk wz dg dc sh H) (hS : va_S (mA mm) H0 H locs) {i x : Int32} (j : Nat) (hij : i = nI j) (hj : j < 16) (hdg : decode cc pc = .ok (.iastore, 1))
    (kk : ∀ (H1 : Heap) (locs1 : List Loc), mAt D dT mm wd lf rt tc ty F (upd sz j x) Wk wz dg dc sh H1 → va_S (mA mm) H0 H1 locs1 → W p l e R s m args below meth c H1 locs1 cells slots Q (F0 m (pc + 1) ls rest)) : W p l e R s m args below meth c H locs cells slots Q (F0 m pc ls (.int x :: .int i :: .ref (mm 6) :: rest)) := by
  subst hij
  refine va_iast hx hb hK.1 hM.1 hM.2 hS 6 0 rfl rfl (vp_in_nI hj (by decide)) hdg (fun H1 locs1 hP hD hS => ?_)
  rw [nI_clamp (by omega)] at hP hD
  exact kk H1 locs1 ⟨hP, hD⟩ hS
theorem m_ast_Wk (hx : p.tables.exec = Jvm.exec) (hb : c.code = cc) (hK : z_K D dT s) (hM : mAt D dT mm wd lf rt tc ty F sz Wk wz dg dc sh H) (hS : va_S (mA mm) H0 H locs) {i x : Int32} (j : Nat) (hij : i = nI j) (hj : j < 400) (b : Nat) (hxb : vp_nar .byte x = by8 b) (hdg : decode cc pc = .ok (.bastore, 1))
    (kk : ∀ (H1 : Heap) (locs1 : List Loc), mAt D dT mm wd lf rt tc ty F sz (updN Wk j b) wz dg dc sh H1 → va_S (mA mm) H0 H1 locs1 → W p l e R s m args below meth c H1 locs1 cells slots Q (F0 m (pc + 1) ls rest)) : W p l e R s m args below meth c H locs cells slots Q (F0 m pc ls (.int x :: .int i :: .ref (mm 7) :: rest)) := by
  subst hij
  refine va_bast hx hb hK.1 hM.1 hM.2 hS 7 1 rfl rfl (vp_in_nI hj (by decide)) hdg (fun H1 locs1 hP hD hS => ?_)
  rw [nI_clamp (by omega)] at hP hD
  rw [hxb, updN_by8] at hP hD
  exact kk H1 locs1 ⟨hP, hD⟩ hS
theorem m_ast_dg (hx : p.tables.exec = Jvm.exec) (hb : c.code = cc) (hK : z_K D dT s) (hM : mAt D dT mm wd lf rt tc ty F sz Wk wz dg dc sh H) (hS : va_S (mA mm) H0 H locs) {i x : Int32} (j : Nat) (hij : i = nI j) (hj : j < 140) (b : Nat) (hxb : x = nI b) (hdg : decode cc pc = .ok (.iastore, 1))
    (kk : ∀ (H1 : Heap) (locs1 : List Loc), mAt D dT mm wd lf rt tc ty F sz Wk wz (updN dg j b) dc sh H1 → va_S (mA mm) H0 H1 locs1 → W p l e R s m args below meth c H1 locs1 cells slots Q (F0 m (pc + 1) ls rest)) : W p l e R s m args below meth c H locs cells slots Q (F0 m pc ls (.int x :: .int i :: .ref (mm 8) :: rest)) := by
  subst hij
  refine va_iast hx hb hK.1 hM.1 hM.2 hS 8 0 rfl rfl (vp_in_nI hj (by decide)) hdg (fun H1 locs1 hP hD hS => ?_)
  rw [nI_clamp (by omega)] at hP hD
  rw [hxb, updN_nI] at hP hD
  exact kk H1 locs1 ⟨hP, hD⟩ hS
theorem m_ast_sh (hx : p.tables.exec = Jvm.exec) (hb : c.code = cc) (hK : z_K D dT s) (hM : mAt D dT mm wd lf rt tc ty F sz Wk wz dg dc sh H) (hS : va_S (mA mm) H0 H locs) {i x : Int32} (j : Nat) (hij : i = nI j) (hj : j < 140) (b : Nat) (hxb : x = nI b) (hdg : decode cc pc = .ok (.iastore, 1))
    (kk : ∀ (H1 : Heap) (locs1 : List Loc), mAt D dT mm wd lf rt tc ty F sz Wk wz dg dc (updN sh j b) H1 → va_S (mA mm) H0 H1 locs1 → W p l e R s m args below meth c H1 locs1 cells slots Q (F0 m (pc + 1) ls rest)) : W p l e R s m args below meth c H locs cells slots Q (F0 m pc ls (.int x :: .int i :: .ref (mm 9) :: rest)) := by
  subst hij
  refine va_iast hx hb hK.1 hM.1 hM.2 hS 9 0 rfl rfl (vp_in_nI hj (by decide)) hdg (fun H1 locs1 hP hD hS => ?_)
  rw [nI_clamp (by omega)] at hP hD
  rw [hxb, updN_nI] at hP hD
  exact kk H1 locs1 ⟨hP, hD⟩ hS
theorem m_put_tc (hx : p.tables.exec = Jvm.exec) (hb : c.code = cc) {idx : Nat} (hts : ∀ w ∈ gt, w.before args s = true) (hown : s.vm.findClass "ValueTreesModel" = some m.cls) (hK : z_K D dT s) (hM : mAt D dT mm wd lf rt tc ty F sz Wk wz dg dc sh H) (hS : va_S (mA mm) H0 H locs) (hlink : (Cond.fieldLink "ValueTreesModel" idx "ValueTreesModel" "typeCount" "I").before args s = true) {x : Int32} (b : Nat) (hxb : x = nI b) (hdg : decode cc pc = .ok (.putfield idx, 3))
    (kk : ∀ (H1 : Heap) (locs1 : List Loc), mAt D dT mm wd lf rt b ty F sz Wk wz dg dc sh H1 → va_S (mA mm) H0 H1 locs1 → W p l e R s m args below meth c H1 locs1 cells slots Q (F0 m (pc + 3) ls rest)) : W p l e R s m args below meth c H locs cells slots Q (F0 m pc ls (.int x :: .ref (mm 0) :: rest)) := by
  subst hxb
  exact va_put (D := D) (ci := 10) (v := .int (nI b)) (ty := .int) (C := "ValueTreesModel") (T := T_M) (N := 12) hx hb hts in_M ty_M tyk_M nm_M hown hK.1 hM.1 hM.2 hS 0 rfl rfl 3 (by decide) hlink (fun _ h9 => h9) rfl (by decide +kernel) rfl rfl (Nat.le_of_ble_eq_true rfl) hdg (fun H1 locs1 hP hD hS => kk H1 locs1 ⟨hP, hD⟩ hS)
theorem m_put_wz (hx : p.tables.exec = Jvm.exec) (hb : c.code = cc) {idx : Nat} (hts : ∀ w ∈ gt, w.before args s = true) (hown : s.vm.findClass "ValueTreesModel" = some m.cls) (hK : z_K D dT s) (hM : mAt D dT mm wd lf rt tc ty F sz Wk wz dg dc sh H) (hS : va_S (mA mm) H0 H locs) (hlink : (Cond.fieldLink "ValueTreesModel" idx "ValueTreesModel" "workSize" "I").before args s = true) {x : Int32} (b : Nat) (hxb : x = nI b) (hdg : decode cc pc = .ok (.putfield idx, 3))
    (kk : ∀ (H1 : Heap) (locs1 : List Loc), mAt D dT mm wd lf rt tc ty F sz Wk b dg dc sh H1 → va_S (mA mm) H0 H1 locs1 → W p l e R s m args below meth c H1 locs1 cells slots Q (F0 m (pc + 3) ls rest)) : W p l e R s m args below meth c H locs cells slots Q (F0 m pc ls (.int x :: .ref (mm 0) :: rest)) := by
  subst hxb
  exact va_put (D := D) (ci := 10) (v := .int (nI b)) (ty := .int) (C := "ValueTreesModel") (T := T_M) (N := 12) hx hb hts in_M ty_M tyk_M nm_M hown hK.1 hM.1 hM.2 hS 0 rfl rfl 8 (by decide) hlink (fun _ h9 => h9) rfl (by decide +kernel) rfl rfl (Nat.le_of_ble_eq_true rfl) hdg (fun H1 locs1 hP hD hS => kk H1 locs1 ⟨hP, hD⟩ hS)
theorem m_put_dc (hx : p.tables.exec = Jvm.exec) (hb : c.code = cc) {idx : Nat} (hts : ∀ w ∈ gt, w.before args s = true) (hown : s.vm.findClass "ValueTreesModel" = some m.cls) (hK : z_K D dT s) (hM : mAt D dT mm wd lf rt tc ty F sz Wk wz dg dc sh H) (hS : va_S (mA mm) H0 H locs) (hlink : (Cond.fieldLink "ValueTreesModel" idx "ValueTreesModel" "digitCount" "I").before args s = true) {x : Int32} (b : Nat) (hxb : x = nI b) (hdg : decode cc pc = .ok (.putfield idx, 3))
    (kk : ∀ (H1 : Heap) (locs1 : List Loc), mAt D dT mm wd lf rt tc ty F sz Wk wz dg b sh H1 → va_S (mA mm) H0 H1 locs1 → W p l e R s m args below meth c H1 locs1 cells slots Q (F0 m (pc + 3) ls rest)) : W p l e R s m args below meth c H locs cells slots Q (F0 m pc ls (.int x :: .ref (mm 0) :: rest)) := by
  subst hxb
  exact va_put (D := D) (ci := 10) (v := .int (nI b)) (ty := .int) (C := "ValueTreesModel") (T := T_M) (N := 12) hx hb hts in_M ty_M tyk_M nm_M hown hK.1 hM.1 hM.2 hS 0 rfl rfl 10 (by decide) hlink (fun _ h9 => h9) rfl (by decide +kernel) rfl rfl (Nat.le_of_ble_eq_true rfl) hdg (fun H1 locs1 hP hD hS => kk H1 locs1 ⟨hP, hD⟩ hS)
end MWR
/-- the working row holds bs -/
def wAt (Wk : Nat → Nat) (bs : List Nat) : Prop := (∀ k, Wk k < 256) ∧ ∀ k, k < bs.length → k < 400 → Wk k = bs.getD k 0
theorem wAt_nil {Wk : Nat → Nat} (h : ∀ k, Wk k < 256) : wAt Wk [] := ⟨h, fun k hk => absurd hk (Nat.not_lt_zero k)⟩
theorem wAt_put {Wk : Nat → Nat} {bs : List Nat} (h : wAt Wk bs) (n : Nat) : wAt (updN Wk bs.length (n % 256)) (bs ++ [n % 256]) := by
  refine ⟨fun k => ?_, fun k hk h4 => ?_⟩
  · unfold updN; split
    · omega
    · exact h.1 k
  · rw [List.length_append] at hk
    rcases Nat.lt_or_ge k bs.length with q | q
    · rw [updN_n (by omega), gD_l q]; exact h.2 k q h4
    · have e : k = bs.length := by simp at hk; omega
      subst e
      rw [updN_s, gD_r (Nat.le_refl _), Nat.sub_self]; rfl
theorem wAt_over {Wk : Nat → Nat} {bs : List Nat} (h : wAt Wk bs) (n : Nat) (hb : 400 ≤ bs.length) : wAt Wk (bs ++ [n]) := by
  refine ⟨h.1, fun k hk h4 => ?_⟩
  rw [gD_l (by omega)]; exact h.2 k (by omega) h4
theorem len_app1 (bs : List Nat) (n : Nat) : (bs ++ [n]).length = bs.length + 1 := by simp
