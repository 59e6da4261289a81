set_option maxHeartbeats 4000000 in
set_option maxRecDepth 100000 in
theorem law_K {s : State} {b : Nat} (hts : ∀ w ∈ lw_tbl, w.before #[Value.ref b] s = true) (hgv : (Jvm.Cond.and given_1 narrow_1).before #[Value.ref b] s = true) : ∃ (D : va_G) (dT : Nat → ClassId), z_K D dT s := by
  have ht : ∀ w ∈ gt, w.before #[Value.ref b] s = true := fun w h => hts w (gt_in h)
  have hs := flat_of_before _ hgv
  obtain ⟨c0, i0, hKn0⟩ := u_known (C := "ValueTrees") (T := T_V) (N := 2) (n := 2) hts (fun w h => gt_in (in_V w h)) (ht _ q22)
  obtain ⟨c1, i1, hKn1⟩ := u_known (C := "ValueTrees$Type") (T := T_Type) (N := 5) (n := 5) hts (fun w h => gt_in (in_Type w h)) (ht _ q56)
  obtain ⟨c2, i2, hKn2⟩ := u_known (C := "ValueTrees$Whole") (T := T_Whole) (N := 5) (n := 5) hts (fun w h => gt_in (in_Whole w h)) (ht _ q206)
  obtain ⟨c3, i3, hKn3⟩ := u_known (C := "ValueTrees$Row") (T := T_Row) (N := 4) (n := 4) hts (fun w h => gt_in (in_Row w h)) (ht _ q284)
  obtain ⟨c4, i4, hKn4⟩ := u_known (C := "ValueTrees$Choice") (T := T_Choice) (N := 4) (n := 4) hts (fun w h => gt_in (in_Choice w h)) (ht _ q304)
  obtain ⟨c5, i5, hKn5⟩ := u_known (C := "ValueTrees$Couple") (T := T_Couple) (N := 4) (n := 4) hts (fun w h => gt_in (in_Couple w h)) (ht _ q388)
  obtain ⟨c6, i6, hKn6⟩ := u_known (C := "ValueTrees$Chain") (T := T_Chain) (N := 5) (n := 5) hts (fun w h => gt_in (in_Chain w h)) (ht _ q329)
  obtain ⟨c7, i7, hKn7⟩ := u_known (C := "ValueTrees$Tree") (T := T_Tree) (N := 3) (n := 3) hts (fun w h => gt_in (in_Tree w h)) (ht _ q350)
  obtain ⟨c8, i8, hKn8⟩ := u_known (C := "ValueTrees$Entry") (T := T_Entry) (N := 3) (n := 3) hts (fun w h => gt_in (in_Entry w h)) (ht _ q420)
  obtain ⟨c9, i9, hKn9⟩ := u_known (C := "java/util/ArrayList") (T := T_AL) (N := 3) (n := 3) hts (fun w h => gt_in (in_AL w h)) (ht _ q30)
  obtain ⟨c10, i10, hKn10⟩ := u_known (C := "ValueTreesModel") (T := T_M) (N := 12) (n := 12) hts (fun w h => gt_in (in_M w h)) (ht _ q534)
  obtain ⟨t0, k0, m0, f0a, f0b, f0c⟩ := Cond.arrayClass_spec (ht _ q260)
  obtain ⟨t1, k1, m1, f1a, f1b, f1c⟩ := Cond.arrayClass_spec (ht _ q576)
  obtain ⟨m2, t2, k2, f2d, -, f2b, f2c, f2a⟩ := Cond.arrayOver_spec (hts _ q133)
  obtain ⟨m3, t3, k3, f3d, -, f3b, f3c, f3a⟩ := Cond.arrayOver_spec (hts _ q144)
  obtain ⟨m4, t4, k4, f4d, -, f4b, f4c, f4a⟩ := Cond.arrayOver_spec (hts _ q352)
  refine ⟨(fun k => match k with | 0 => c0 | 1 => c1 | 2 => c2 | 3 => c3 | 4 => c4 | 5 => c5 | 6 => c6 | 7 => c7 | 8 => c8 | 9 => c9 | _ => c10, fun k => match k with | 0 => i0 | 1 => i1 | 2 => i2 | 3 => i3 | 4 => i4 | 5 => i5 | 6 => i6 | 7 => i7 | 8 => i8 | 9 => i9 | _ => i10), fun k => match k with | 0 => t0 | 1 => t1 | 2 => t2 | 3 => t3 | _ => t4, ⟨?_, ?_⟩, ?_, ?_, ?_, va_Mi.of (hs _ (by decide +kernel)), va_Dc.of (hts _ q853)⟩
  · intro k r hr
    match k, hr with
    | 0, hr => cases hr; exact hKn0
    | 1, hr => cases hr; exact hKn1
    | 2, hr => cases hr; exact hKn2
    | 3, hr => cases hr; exact hKn3
    | 4, hr => cases hr; exact hKn4
    | 5, hr => cases hr; exact hKn5
    | 6, hr => cases hr; exact hKn6
    | 7, hr => cases hr; exact hKn7
    | 8, hr => cases hr; exact hKn8
    | 9, hr => cases hr; exact hKn9
    | 10, hr => cases hr; exact hKn10
    | k + 11, hr => cases hr
  · intro k r hr
    match k, hr with
    | 0, hr => cases hr; exact ⟨fun n z => ⟨(fun k h => by cases h), k0, f0b, m0, f0c⟩, f0a⟩
    | 1, hr => cases hr; exact ⟨fun n z => ⟨(fun k h => by cases h), k1, f1b, m1, f1c⟩, f1a⟩
    | 2, hr => cases hr; exact ⟨fun n z => ⟨(fun k h => by cases h), k2, f2b, m2, f2c⟩, k2, m2, f2b, f2c, f2d, f2a⟩
    | 3, hr => cases hr; exact ⟨fun n z => ⟨(fun k h => by cases h), k3, f3b, m3, f3c⟩, k3, m3, f3b, f3c, f3d, f3a⟩
    | 4, hr => cases hr; exact ⟨fun n z => ⟨(fun k h => by cases h), k4, f4b, m4, f4c⟩, k4, m4, f4b, f4c, f4d, f4a⟩
    | k + 5, hr => cases hr
  · rw [show ncs = [("ValueTrees$Whole", "ValueTrees$Row"), ("ValueTrees$Whole", "ValueTrees$Choice"), ("ValueTrees$Whole", "ValueTrees$Couple"), ("ValueTrees$Whole", "ValueTrees$Chain"), ("ValueTrees$Whole", "ValueTrees$Tree"), ("ValueTrees$Row", "ValueTrees$Whole"), ("ValueTrees$Row", "ValueTrees$Choice"), ("ValueTrees$Row", "ValueTrees$Couple"), ("ValueTrees$Row", "ValueTrees$Chain"), ("ValueTrees$Row", "ValueTrees$Tree"), ("ValueTrees$Choice", "ValueTrees$Whole"), ("ValueTrees$Choice", "ValueTrees$Row"), ("ValueTrees$Choice", "ValueTrees$Couple"), ("ValueTrees$Choice", "ValueTrees$Chain"), ("ValueTrees$Choice", "ValueTrees$Tree"), ("ValueTrees$Couple", "ValueTrees$Whole"), ("ValueTrees$Couple", "ValueTrees$Row"), ("ValueTrees$Couple", "ValueTrees$Choice"), ("ValueTrees$Couple", "ValueTrees$Chain"), ("ValueTrees$Couple", "ValueTrees$Tree"), ("ValueTrees$Chain", "ValueTrees$Whole"), ("ValueTrees$Chain", "ValueTrees$Row"), ("ValueTrees$Chain", "ValueTrees$Choice"), ("ValueTrees$Chain", "ValueTrees$Couple"), ("ValueTrees$Chain", "ValueTrees$Tree"), ("ValueTrees$Tree", "ValueTrees$Whole"), ("ValueTrees$Tree", "ValueTrees$Row"), ("ValueTrees$Tree", "ValueTrees$Choice"), ("ValueTrees$Tree", "ValueTrees$Couple"), ("ValueTrees$Tree", "ValueTrees$Chain")] by decide +kernel]
    exact List.forall_mem_cons.mpr ⟨va_Nc.of (hs _ (by decide +kernel)), List.forall_mem_cons.mpr ⟨va_Nc.of (hs _ (by decide +kernel)), List.forall_mem_cons.mpr ⟨va_Nc.of (hs _ (by decide +kernel)), List.forall_mem_cons.mpr ⟨va_Nc.of (hs _ (by decide +kernel)), List.forall_mem_cons.mpr ⟨va_Nc.of (hs _ (by decide +kernel)), List.forall_mem_cons.mpr ⟨va_Nc.of (hs _ (by decide +kernel)), List.forall_mem_cons.mpr ⟨va_Nc.of (hs _ (by decide +kernel)), List.forall_mem_cons.mpr ⟨va_Nc.of (hs _ (by decide +kernel)), List.forall_mem_cons.mpr ⟨va_Nc.of (hs _ (by decide +kernel)), List.forall_mem_cons.mpr ⟨va_Nc.of (hs _ (by decide +kernel)), List.forall_mem_cons.mpr ⟨va_Nc.of (hs _ (by decide +kernel)), List.forall_mem_cons.mpr ⟨va_Nc.of (hs _ (by decide +kernel)), List.forall_mem_cons.mpr ⟨va_Nc.of (hs _ (by decide +kernel)), List.forall_mem_cons.mpr ⟨va_Nc.of (hs _ (by decide +kernel)), List.forall_mem_cons.mpr ⟨va_Nc.of (hs _ (by decide +kernel)), List.forall_mem_cons.mpr ⟨va_Nc.of (hs _ (by decide +kernel)), List.forall_mem_cons.mpr ⟨va_Nc.of (hs _ (by decide +kernel)), List.forall_mem_cons.mpr ⟨va_Nc.of (hs _ (by decide +kernel)), List.forall_mem_cons.mpr ⟨va_Nc.of (hs _ (by decide +kernel)), List.forall_mem_cons.mpr ⟨va_Nc.of (hs _ (by decide +kernel)), List.forall_mem_cons.mpr ⟨va_Nc.of (hs _ (by decide +kernel)), List.forall_mem_cons.mpr ⟨va_Nc.of (hs _ (by decide +kernel)), List.forall_mem_cons.mpr ⟨va_Nc.of (hs _ (by decide +kernel)), List.forall_mem_cons.mpr ⟨va_Nc.of (hs _ (by decide +kernel)), List.forall_mem_cons.mpr ⟨va_Nc.of (hs _ (by decide +kernel)), List.forall_mem_cons.mpr ⟨va_Nc.of (hs _ (by decide +kernel)), List.forall_mem_cons.mpr ⟨va_Nc.of (hs _ (by decide +kernel)), List.forall_mem_cons.mpr ⟨va_Nc.of (hs _ (by decide +kernel)), List.forall_mem_cons.mpr ⟨va_Nc.of (hs _ (by decide +kernel)), List.forall_mem_cons.mpr ⟨va_Nc.of (hs _ (by decide +kernel)), fun _ h => absurd h List.not_mem_nil⟩⟩⟩⟩⟩⟩⟩⟩⟩⟩⟩⟩⟩⟩⟩⟩⟩⟩⟩⟩⟩⟩⟩⟩⟩⟩⟩⟩⟩⟩
  · exact List.forall_mem_cons.mpr ⟨va_AO.of (hts _ q133), List.forall_mem_cons.mpr ⟨va_AO.of (hts _ q144), List.forall_mem_cons.mpr ⟨va_AO.of (hts _ q352), fun _ h => absurd h List.not_mem_nil⟩⟩⟩
  · rw [show csts = [("ValueTrees$Whole", "ValueTrees$Value"), ("ValueTrees$Row", "ValueTrees$Value"), ("ValueTrees$Choice", "ValueTrees$Value"), ("ValueTrees$Couple", "ValueTrees$Value"), ("ValueTrees$Chain", "ValueTrees$Value"), ("ValueTrees$Tree", "ValueTrees$Value"), ("ValueTrees$Type", "java/lang/Object"), ("ValueTrees$Type", "ValueTrees$Type")] by decide +kernel]
    exact List.forall_mem_cons.mpr ⟨va_Nw.of rfl (hts _ q869), List.forall_mem_cons.mpr ⟨va_Nw.of rfl (hts _ q867), List.forall_mem_cons.mpr ⟨va_Nw.of rfl (hts _ q865), List.forall_mem_cons.mpr ⟨va_Nw.of rfl (hts _ q866), List.forall_mem_cons.mpr ⟨va_Nw.of rfl (hts _ q864), List.forall_mem_cons.mpr ⟨va_Nw.of rfl (hts _ q868), List.forall_mem_cons.mpr ⟨va_Nw.of rfl (hts _ q855), List.forall_mem_cons.mpr ⟨va_Nw.of rfl (hts _ q844), fun _ h => absurd h List.not_mem_nil⟩⟩⟩⟩⟩⟩⟩⟩
theorem law_Z {s : State} {b : Nat} (hts : ∀ w ∈ lw_tbl, w.before #[Value.ref b] s = true) (hgv : (Jvm.Cond.and given_1 narrow_1).before #[Value.ref b] s = true) : ∃ dd, dZ dd (fun q => s.heap.size ≤ q) s s.heap := by
  have hs := flat_of_before _ hgv
  have hA : ∀ a : Nat, a < s.heap.size → ¬ (fun q => s.heap.size ≤ q) a := fun a h => Nat.not_le.mpr h
  have harr : (Cond.arrayOf (.static "java/util/ArrayList" "DEFAULTCAPACITY_EMPTY_ELEMENTDATA" "[Ljava/lang/Object;") (.object "java/lang/Object")).before #[Value.ref b] s = true := hs _ (by decide +kernel)
  have hlen : (Cond.eq (.length (.static "java/util/ArrayList" "DEFAULTCAPACITY_EMPTY_ELEMENTDATA" "[Ljava/lang/Object;")) (.int 0)).before #[Value.ref b] s = true := hs _ (by decide +kernel)
  obtain ⟨t, ht, hT⟩ := va_Tof (N := 0) (f := fun _ => .null) (A := fun q => s.heap.size ≤ q) (by decide) harr (va_eqt hlen) (fun j hj => absurd hj (Nat.not_lt_zero j)) hA
  exact ⟨t, va_Zref (hts _ q42) (hts _ (gt_in q4)) ht hA, hT⟩
