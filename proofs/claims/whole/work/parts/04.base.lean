/-- the array classes -/
def tz (dT : Nat → ClassId) : List (ClassId × FieldType) := [(dT 0, .int), (dT 1, .byte), (dT 2, .object "java/lang/Object"), (dT 3, .object "ValueTrees$Value"), (dT 4, .object "ValueTrees$Entry")]
/-- the kinds of values, by their places in cls (2 .. 7) -/
def knd : List String := ["ValueTrees$Whole", "ValueTrees$Row", "ValueTrees$Choice", "ValueTrees$Couple", "ValueTrees$Chain", "ValueTrees$Tree"]
def ncs : List (String × String) := (knd.map (fun a => (knd.filter (fun b => !(a == b))).map (fun b => (a, b)))).flatten
def csts : List (String × String) := knd.map (fun a => (a, "ValueTrees$Value")) ++ [("ValueTrees$Type", "java/lang/Object"), ("ValueTrees$Type", "ValueTrees$Type")]
def aos : List String := ["java/lang/Object", "ValueTrees$Value", "ValueTrees$Entry"]
def z_K (D : va_G) (dT : Nat → ClassId) (U : State) : Prop := va_K D cls (tz dT) U ∧ (∀ q ∈ ncs, va_Nc q.1 q.2 U) ∧ (∀ C ∈ aos, va_AO C U) ∧ (∀ q ∈ csts, va_Nw (.castable q.1 q.2) U) ∧ (∃ mi, va_Mi "[Ljava/lang/Object;" mi U) ∧ va_Dc U
theorem z_castMoved {C T : String} {u U : State} (hvm : u.vm.Alike U.vm) (h : va_Nw (.castable C T) u) : va_Nw (.castable C T) U := va_tabs rfl (rfl : (u.setVm U.vm).vm = U.vm) (by rw [Cond.castable_setVm hvm]; exact h)
theorem z_K.moved {D : va_G} {dT : Nat → ClassId} {u U : State} (hvm : u.vm.Alike U.vm) (h : z_K D dT u) : z_K D dT U := ⟨h.1.moved hvm, fun q hq => (h.2.1 q hq).moved hvm, fun C hC => (h.2.2.1 C hC).moved hvm, fun q hq => z_castMoved hvm (h.2.2.2.1 q hq), h.2.2.2.2.1.elim (fun mi hm => ⟨mi, hm.moved hvm⟩), h.2.2.2.2.2.moved hvm⟩
theorem gd_s {big ws : List Cond} (hm : ∀ w ∈ ws, w ∈ big) (h : ws.all goodWord = true) : GoodIn big ws := fun w hw => ⟨hm w hw, good_of_word (List.all_eq_true.mp h w hw)⟩
theorem gd_c {c0 : Cond} : GoodIn (c0 :: gt) gt := gd_s (fun _ h => List.mem_cons_of_mem _ h) gt_good
theorem gd_l : GoodIn lw_tbl gt := gd_s (fun _ h => gt_in h) gt_good
theorem gd_cons {big : List Cond} {w : Cond} {ws : List Cond} (hg : ∀ w ∈ gt, w ∈ big) (h : w ∈ gt) (k : GoodIn big ws) : GoodIn big (w :: ws) := fun v hv => (List.mem_cons.mp hv).elim (fun e => by rw [e]; exact ⟨hg w h, good_of_word (List.all_eq_true.mp gt_good w h)⟩) (k v)
theorem gd_up {c0 : Cond} : ∀ w ∈ gt, w ∈ c0 :: gt := fun _ h => List.mem_cons_of_mem _ h
theorem gd_lw : ∀ w ∈ gt, w ∈ lw_tbl := fun _ h => gt_in h
/-- the words of a call of an instance method, a static one, a constructor -/
theorem gV {big : List Cond} {own C : String} {idx n : Nat} {y : MethodName} {b : ByteArray} {r : Option FieldType} (hg : ∀ w ∈ gt, w ∈ big) (hG : GoodIn big gt) (h1 : Cond.methodLink own idx y ∈ gt) (h2 : Cond.instanceMethod y ∈ gt) (h3 : Cond.selects C y y ∈ gt) (h4 : Cond.initialized C ∈ gt) (h5 : Cond.code y b n r ∈ gt) : GoodIn big (wsV own idx C y (.code y b n r :: gt)) :=
  gd_cons hg h1 (gd_cons hg h2 (gd_cons hg h3 (gd_cons hg h4 (gd_cons hg h5 hG))))
theorem gS {big : List Cond} {own : String} {idx n : Nat} {y : MethodName} {b : ByteArray} {r : Option FieldType} (hg : ∀ w ∈ gt, w ∈ big) (hG : GoodIn big gt) (h1 : Cond.methodLink own idx y ∈ gt) (h2 : Cond.static y ∈ gt) (h4 : Cond.initialized own ∈ gt) (h5 : Cond.code y b n r ∈ gt) : GoodIn big (wsS own idx y (.code y b n r :: gt)) :=
  gd_cons hg h1 (gd_cons hg h2 (gd_cons hg h4 (gd_cons hg h5 hG)))
theorem gI {big : List Cond} {n : Nat} {y : MethodName} {b : ByteArray} {r : Option FieldType} (hg : ∀ w ∈ gt, w ∈ big) (hG : GoodIn big gt) (h5 : Cond.code y b n r ∈ gt) : GoodIn big (.code y b n r :: gt) := gd_cons hg h5 hG
theorem z_m1 : (-1 : Int32).toInt = -1 := by decide
theorem z_m2 : (-2 : Int32).toInt = -2 := by decide
section ZB
variable {p : Program} {l : Launch} {e : Env} {R : Room} {s : State} {m : MethodId} {args : Array Value} {below : List Frame} {meth : Method} {c : Code} {H : Heap} {locs : List Loc} {cells slots : Nat} {Q : State → Prop}
variable {cc : ByteArray} {pc : Nat} {ls : Array Slot} {rest st0 : List Value} {D : va_G} {cl : List vw_C} {A A0 A1 : Nat → Prop} {a : Array Value} {dT : Nat → ClassId} {H0 : Heap} {mc ms : Nat} {av : List Value}
/-- a contract's start: the arguments, the heap, the tables -/
def z_P (D : va_G) (dT : Nat → ClassId) (av : List Value) (H : Heap) : Array Value → State → Prop := va_Pc av (fun U => U.heap = H ∧ z_K D dT U)
/-- the end of a method that leaves the heap as it is -/
def z_R (post : Value → Prop) : Array Value → State → Outcome → State → Prop := fun _ st oc t => ∃ v, oc = .returned (some v) ∧ post v ∧ t.heap = st.heap
/-- the end of a method that writes inside A -/
def z_Q (A : Nat → Prop) (post : Option Value → Heap → Prop) : Array Value → State → Outcome → State → Prop := fun _ st oc t => (∃ v, oc = .returned v ∧ post v t.heap) ∧ va_F A st t
theorem z_blind : FrameBlind (z_P D dT av H) := fun a U g mk h => ⟨h.1, h.2.1, z_K.moved (u := U) (U := U.calling g mk a) (Vm.Alike.refl U.vm) h.2.2⟩
theorem z_preS (hK : z_K D dT s) : PreS s H (z_P D dT av H) av := ⟨z_blind, fun U hU hW => ⟨rfl, hU, z_K.moved hW.alike hK⟩⟩
theorem z_preV {C : String} {b : Addr} {As : List Value} (hK : z_K D dT s) (hr : ∃ cellB : Cell, H[b]? = some cellB ∧ cellB.vm.isStatics = false ∧ s.vm.findClass C = some cellB.cls) : PreV s H C b (z_P D dT (.ref b :: As) H) As := ⟨z_blind, hr, fun U hU hW => ⟨rfl, hU, z_K.moved hW.alike hK⟩⟩
theorem z_callR {post : Value → Prop} (hr : va_Run p l e R s m args below meth c H locs cells slots 0 0 (F0 m pc ls st0) rest (z_R post a) (fun _ => False))
    (kk : ∀ v : Value, post v → W p l e R s m args below meth c H locs cells slots Q (F0 m (pc + 3) ls (v :: rest))) : W p l e R s m args below meth c H locs cells slots Q (F0 m pc ls st0) := by
  intro T hT X
  obtain ⟨v, st₀, t, T', L, h0, X', hL, e1, e2, ⟨v', hv, hp, hh⟩, st⟩ := hr T hT X
  cases hv
  obtain ⟨t2, a1, b1⟩ := kk v' hp T' (by rw [e1, hh, h0]) (Stand.forget X' (fun q h => (hL q h).elim))
  exact ⟨t2, st t2 a1, b1⟩
theorem z_callQ {post : Option Value → Heap → Prop} (hr : va_Run p l e R s m args below meth c H locs cells slots mc ms (F0 m pc ls st0) rest (z_Q A1 post a) A1) (hS : va_S A0 H0 H locs) (hA : ∀ q, A1 q → A0 q)
    (kk : ∀ (v : Option Value) (H1 : Heap) (locs1 : List Loc), post v H1 → H.size ≤ H1.size → (∀ q : Nat, q < H.size → ¬ A1 q → H1[q]? = H[q]?) → va_S A0 H0 H1 locs1 → W p l e R s m args below meth c H1 locs1 (cells + mc) (slots + ms) Q (F0 m (pc + 3) ls (v.toList ++ rest))) : W p l e R s m args below meth c H locs cells slots Q (F0 m pc ls st0) := by
  intro T hT X
  obtain ⟨v, st₀, t, T', L, h0, X', hL, e1, e2, ⟨⟨v', hv, hp⟩, hz, hk⟩, st⟩ := hr T hT X
  cases hv
  rw [h0] at hz hk
  obtain ⟨t2, a1, b1⟩ := kk v T'.heap (locs ++ L) (by rw [e1]; exact hp) (by rw [e1]; exact hz) (fun q h1 h2 => by rw [e1]; exact hk q h1 h2)
    ⟨Nat.le_trans hS.1 (by rw [e1]; exact hz), fun q h1 h2 => by rw [e1, hk q (Nat.lt_of_lt_of_le h1 hS.1) (fun z => h2 (hA q z))]; exact hS.2.1 q h1 h2, fun q hq => by
      rcases List.mem_append.mp hq with h | h
      · exact hS.2.2 q h
      · exact hA _ (hL q h)⟩ T' rfl X'
  exact ⟨t2, st t2 a1, b1⟩
theorem z_iretR {post : Value → Prop} {v : Int32} (hx : p.tables.exec = Jvm.exec) (hb : c.code = cc) (hr : meth.sig.returnType = some .int) (hlocks : meth.locks = false) (hdg : decode cc pc = .ok (.ireturn, 1)) (hpost : post (.int v)) :
    W p l e R s m args below meth c s.heap [] 0 0 (MQ below (z_R post) args s 0 0 (fun _ => False)) (F0 m pc ls [.int v]) :=
  W.iret hx hb hr (fun _ ht _ => ⟨_, rfl, hpost, ht⟩) (fun _ h => by cases h) hdg hlocks
theorem z_zretR {post : Value → Prop} {v : Int32} (hx : p.tables.exec = Jvm.exec) (hb : c.code = cc) (hr : meth.sig.returnType = some .boolean) (hlocks : meth.locks = false) (hdg : decode cc pc = .ok (.ireturn, 1)) (hn : narrow .boolean (.int v) = .int v) (hpost : post (.int v)) :
    W p l e R s m args below meth c s.heap [] 0 0 (MQ below (z_R post) args s 0 0 (fun _ => False)) (F0 m pc ls [.int v]) :=
  W.zret hx hb hr hn (fun _ ht _ => ⟨_, rfl, hpost, ht⟩) (fun _ h => by cases h) hdg hlocks
theorem z_aretR {post : Value → Prop} {v : Value} {rt : FieldType} (hx : p.tables.exec = Jvm.exec) (hb : c.code = cc) (hr : meth.sig.returnType = some rt) (hlocks : meth.locks = false) (hdg : decode cc pc = .ok (.areturn, 1)) (hrt : (∃ n, rt = .object n) ∨ ∃ t, rt = .array t) (hv : v = .null ∨ ∃ a, v = .ref a) (hpost : post v) :
    W p l e R s m args below meth c s.heap [] 0 0 (MQ below (z_R post) args s 0 0 (fun _ => False)) (F0 m pc ls [v]) :=
  W.aret hx hb hr hrt hv (fun _ ht _ => ⟨_, rfl, hpost, ht⟩) (fun _ h => by cases h) hdg hlocks
theorem z_iretQ {post : Option Value → Heap → Prop} {v : Int32} (hx : p.tables.exec = Jvm.exec) (hb : c.code = cc) (hr : meth.sig.returnType = some .int) (hlocks : meth.locks = false) (hdg : decode cc pc = .ok (.ireturn, 1)) (hS : va_S A s.heap H locs) (hc : cells ≤ mc) (hs : slots ≤ ms) (hpost : post (some (.int v)) H) :
    W p l e R s m args below meth c H locs cells slots (MQ below (z_Q A post) args s mc ms A) (F0 m pc ls [.int v]) :=
  W.widen hc hs (W.iret hx hb hr (fun _ ht _ => ⟨⟨_, rfl, by rw [ht]; exact hpost⟩, hS.F ht⟩) hS.2.2 hdg hlocks)
theorem z_zretQ {post : Option Value → Heap → Prop} {v : Int32} (hx : p.tables.exec = Jvm.exec) (hb : c.code = cc) (hr : meth.sig.returnType = some .boolean) (hlocks : meth.locks = false) (hdg : decode cc pc = .ok (.ireturn, 1)) (hn : narrow .boolean (.int v) = .int v) (hS : va_S A s.heap H locs) (hc : cells ≤ mc) (hs : slots ≤ ms) (hpost : post (some (.int v)) H) :
    W p l e R s m args below meth c H locs cells slots (MQ below (z_Q A post) args s mc ms A) (F0 m pc ls [.int v]) :=
  W.widen hc hs (W.zret hx hb hr hn (fun _ ht _ => ⟨⟨_, rfl, by rw [ht]; exact hpost⟩, hS.F ht⟩) hS.2.2 hdg hlocks)
theorem z_aretQ {post : Option Value → Heap → Prop} {v : Value} {rt : FieldType} (hx : p.tables.exec = Jvm.exec) (hb : c.code = cc) (hr : meth.sig.returnType = some rt) (hlocks : meth.locks = false) (hdg : decode cc pc = .ok (.areturn, 1)) (hrt : (∃ n, rt = .object n) ∨ ∃ t, rt = .array t) (hv : v = .null ∨ ∃ a, v = .ref a) (hS : va_S A s.heap H locs) (hc : cells ≤ mc) (hs : slots ≤ ms) (hpost : post (some v) H) :
    W p l e R s m args below meth c H locs cells slots (MQ below (z_Q A post) args s mc ms A) (F0 m pc ls [v]) :=
  W.widen hc hs (W.aret hx hb hr hrt hv (fun _ ht _ => ⟨⟨_, rfl, by rw [ht]; exact hpost⟩, hS.F ht⟩) hS.2.2 hdg hlocks)
theorem z_vretQ {post : Option Value → Heap → Prop} (hx : p.tables.exec = Jvm.exec) (hb : c.code = cc) (hr : meth.sig.returnType = none) (hlocks : meth.locks = false) (hdg : decode cc pc = .ok (.return_, 1)) (hS : va_S A s.heap H locs) (hc : cells ≤ mc) (hs : slots ≤ ms) (hpost : post none H) :
    W p l e R s m args below meth c H locs cells slots (MQ below (z_Q A post) args s mc ms A) (F0 m pc ls []) :=
  W.widen hc hs (W.vret hx hb hr (fun _ ht _ => ⟨⟨_, rfl, by rw [ht]; exact hpost⟩, hS.F ht⟩) hS.2.2 hdg hlocks)
theorem z_1 {q : Nat × va_E} (h : va_at D cl q H) : va_P D cl [q] H := fun k q' hk => by
  cases k with
  | zero => cases hk; exact h
  | succ n => simp at hk
theorem z_old {q : Nat × va_E} (hS : va_S A s.heap H locs) (h : va_at D cl q s.heap) (hn : ¬ A q.1) : va_at D cl q H := h.kept (hS.2.1 q.1 h.lt hn)
theorem z_S0 : va_S (fun q => H.size ≤ q) H H [] := va_S.rf
theorem z_new {q : Nat × va_E} (hS : va_S (fun q => s.heap.size ≤ q) s.heap H locs) (h : va_at D cl q s.heap) : va_at D cl q H := z_old hS h (Nat.not_le.mpr h.lt)
theorem z_iald (hx : p.tables.exec = Jvm.exec) (hb : c.code = cc) (hK : z_K D dT s) {x : Nat} {n : Nat} {f : Nat → Int32} (ha : va_at D cls (x, .inl (dT 0, n, .inl f)) H) {i : Int32} (j : Nat) (hij : i = nI j) (hj : j < n) (hn : n < 2 ^ 31) (hdg : decode cc pc = .ok (.iaload, 1))
    (kk : W p l e R s m args below meth c H locs cells slots Q (F0 m (pc + 1) ls (.int (f j) :: rest))) : W p l e R s m args below meth c H locs cells slots Q (F0 m pc ls (.int i :: .ref x :: rest)) := by
  subst hij
  refine va_iald hx hb hK.1 (z_1 ha) 0 0 rfl rfl (vp_in_nI hj hn) hdg ?_
  rw [nI_clamp (by omega)]
  exact kk
theorem z_bald (hx : p.tables.exec = Jvm.exec) (hb : c.code = cc) (hK : z_K D dT s) {x : Nat} {n : Nat} {f : Nat → Int32} (ha : va_at D cls (x, .inl (dT 1, n, .inl f)) H) {i : Int32} (j : Nat) (hij : i = nI j) (hj : j < n) (hn : n < 2 ^ 31) (hdg : decode cc pc = .ok (.baload, 1))
    (kk : W p l e R s m args below meth c H locs cells slots Q (F0 m (pc + 1) ls (.int (f j) :: rest))) : W p l e R s m args below meth c H locs cells slots Q (F0 m pc ls (.int i :: .ref x :: rest)) := by
  subst hij
  refine va_bald hx hb hK.1 (z_1 ha) 0 1 rfl rfl (vp_in_nI hj hn) hdg ?_
  rw [nI_clamp (by omega)]
  exact kk
theorem z_aald (hx : p.tables.exec = Jvm.exec) (hb : c.code = cc) (hK : z_K D dT s) {x : Nat} {n t0 : Nat} {C : String} {f : Nat → Option Nat} (ha : va_at D cls (x, .inl (dT t0, n, .inr (.inr (.inr (.inr f))))) H) (ht : (tz dT)[t0]? = some (dT t0, .object C)) {i : Int32} (j : Nat) (hij : i = nI j) (hj : j < n) (hn : n < 2 ^ 31) {v : Value} (hv : va_rf (f j) = v) (hdg : decode cc pc = .ok (.aaload, 1))
    (kk : W p l e R s m args below meth c H locs cells slots Q (F0 m (pc + 1) ls (v :: rest))) : W p l e R s m args below meth c H locs cells slots Q (F0 m pc ls (.int i :: .ref x :: rest)) := by
  subst hij hv
  refine va_aldq hx hb hK.1 (z_1 ha) 0 t0 rfl ht (vp_in_nI hj hn) hdg ?_
  rw [nI_clamp (by omega)]
  exact kk
theorem z_alen (hx : p.tables.exec = Jvm.exec) (hb : c.code = cc) (hK : z_K D dT s) {x t0 : Nat} {y : vp_A} {ty : FieldType} (ha : va_at D cls (x, .inl (dT t0, y)) H) (ht : (tz dT)[t0]? = some (dT t0, ty)) (hdg : decode cc pc = .ok (.arraylength, 1))
    (kk : W p l e R s m args below meth c H locs cells slots Q (F0 m (pc + 1) ls (.int (nI y.1) :: rest))) : W p l e R s m args below meth c H locs cells slots Q (F0 m pc ls (.ref x :: rest)) := by
  exact va_alen (v := nI y.1) hx hb hK.1 (z_1 ha) 0 t0 rfl ht rfl hdg kk
end ZB
