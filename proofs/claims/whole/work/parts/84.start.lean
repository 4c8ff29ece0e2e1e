/-! THE START: what the Statement gives, in the words of k_S -/
theorem ks_prim {args : Array Value} {s : State} (ty : FieldType) (h : (Cond.arrayClass ty).before args s = true) : ∃ cA : ClassId, ArrOfT s cA ty ∧ s.vm.findClass ("[" ++ ty.toString) = some cA := by
  obtain ⟨cA, kA, comp, h1, h2, h3⟩ := Cond.arrayClass_spec h
  exact ⟨cA, fun n z => ⟨fun k h => (by cases h), kA, h2, comp, h3⟩, h1⟩
theorem ks_obj {args : Array Value} {s : State} (C : String) (h : (Cond.arrayOver (.object C)).before args s = true) : ∃ cA : ClassId, ArrOfT s cA (.object C) ∧ va_RA s cA (.object C) := by
  obtain ⟨comp, c, k, h1, h2, h3, h4, h5⟩ := Cond.arrayOver_spec h
  exact ⟨c, fun n z => ⟨fun k h => (by cases h), k, h3, comp, h4⟩, k, comp, h3, h4, h1, h5⟩
theorem ks_nw : ∀ w ∈ k_nw, (w.onTables = true ∧ w ∈ lw_tbl) ∨ w ∈ [Cond.castable RX3 RX3, Cond.castable RX5 RX5, Cond.castable RX2 RX2, Cond.castable RX1 RX1] := by decide +kernel
theorem ks_asg (vm : Vm) (c : ClassId) : vm.assignable c c = true := by
  show vm.assignableAux 256 c c = true
  unfold Vm.assignableAux
  simp
theorem ks_self {s : State} {C : String} {c : ClassId} (h : s.vm.findClass C = some c) : va_Nw (.castable C C) s := by
  show (Cond.castable C C).before #[] s = true
  simp [Cond.before, Cond.holds, Cond.value, h, ks_asg]
theorem ks_str : ∀ x ∈ k_str, Cond.stringRef x.1 x.2.1 x.2.2 ∈ lw_tbl := by decide +kernel
theorem ks_nc : ∀ x ∈ k_nc, Cond.not (.castable x.1 x.2) ∈ flatC (Jvm.Cond.and given_1 narrow_1) := by decide +kernel
theorem ks_ex : ∀ x ∈ k_str, Cond.exactly (.string x.1 x.2.1) "java/lang/String" ∈ flatC (Jvm.Cond.and given_1 narrow_1) := by decide +kernel
def ks_AL : Term := .static "java/util/ArrayList" "DEFAULTCAPACITY_EMPTY_ELEMENTDATA" "[Ljava/lang/Object;"
theorem ks_al : ∀ w ∈ [Cond.arrayOf ks_AL (.object "java/lang/Object"), Cond.eq (.length ks_AL) (.int 0), Cond.isRef (.mirror "[Ljava/lang/Object;"), Cond.isRef (.static Bundle.tN "UNASSIGNED_STACK" Bundle.steD), Cond.isRef (.static Bundle.tN "SUPPRESSED_SENTINEL" Bundle.listD)], w ∈ flatC (Jvm.Cond.and given_1 narrow_1) := by decide +kernel
theorem ks_tb : ∀ w ∈ [Cond.laysStatic "java/util/ArrayList" "DEFAULTCAPACITY_EMPTY_ELEMENTDATA" "[Ljava/lang/Object;", Cond.laysStatic Bundle.tN "UNASSIGNED_STACK" Bundle.steD, Cond.laysStatic Bundle.tN "SUPPRESSED_SENTINEL" Bundle.listD, Cond.initialized "java/util/ArrayList", Cond.initialized Bundle.tN, Cond.declares ⟨"java/lang/Object", "getClass", "()Ljava/lang/Class;"⟩, Cond.arrayClass .int, Cond.arrayClass .boolean, Cond.arrayClass .char, Cond.arrayClass .long, Cond.arrayClass .double, Cond.arrayOver (.object "Crossdockery$Lorry"), Cond.arrayOver (.object "java/lang/Object"), Cond.instantiable RJ0 4, Cond.instantiable RJx00060 6, Cond.instantiable RJx4a65c 3, Cond.instantiable RX0 5, Cond.instantiable RX1 4, Cond.instantiable RX2 4, Cond.instantiable RX3 15, Cond.instantiable RX4 6, Cond.instantiable RX5 7, Cond.instantiable RX6 2, Cond.instantiable RX7 34], w ∈ lw_tbl := by decide +kernel
theorem ks_start {b : Nat} {s : State} (hts : ∀ w ∈ lw_tbl, w.before #[Value.ref b] s = true) (hgv : (Jvm.Cond.and given_1 narrow_1).before #[Value.ref b] s = true) : ∃ X : kX, k_H0 X = s.heap ∧ k_S X s := by
  have hf := flat_of_before _ hgv
  have ht := fun w h => hts w (ks_tb w h)
  have hl := fun w h => hf w (ks_al w h)
  obtain ⟨c0, i0, k0⟩ := u_known (C := RJ0) (T := TJ0) (N := 2) (n := 4) hts inJ0 (ht _ (List.mem_of_getElem? (i := 13) rfl))
  obtain ⟨c1, i1, k1⟩ := u_known (C := RJx00060) (T := TJx00060) (N := 6) (n := 6) hts inJx00060 (ht _ (List.mem_of_getElem? (i := 14) rfl))
  obtain ⟨c2, i2, k2⟩ := u_known (C := RJx4a65c) (T := TJx4a65c) (N := 3) (n := 3) hts inJx4a65c (ht _ (List.mem_of_getElem? (i := 15) rfl))
  obtain ⟨c3, i3, k3⟩ := u_known (C := RX0) (T := TX0) (N := 5) (n := 5) hts inX0 (ht _ (List.mem_of_getElem? (i := 16) rfl))
  obtain ⟨c4, i4, k4⟩ := u_known (C := RX1) (T := TX1) (N := 4) (n := 4) hts inX1 (ht _ (List.mem_of_getElem? (i := 17) rfl))
  obtain ⟨c5, i5, k5⟩ := u_known (C := RX2) (T := TX2) (N := 4) (n := 4) hts inX2 (ht _ (List.mem_of_getElem? (i := 18) rfl))
  obtain ⟨c6, i6, k6⟩ := u_known (C := RX3) (T := TX3) (N := 15) (n := 15) hts inX3 (ht _ (List.mem_of_getElem? (i := 19) rfl))
  obtain ⟨c7, i7, k7⟩ := u_known (C := RX4) (T := TX4) (N := 6) (n := 6) hts inX4 (ht _ (List.mem_of_getElem? (i := 20) rfl))
  obtain ⟨c8, i8, k8⟩ := u_known (C := RX5) (T := TX5) (N := 7) (n := 7) hts inX5 (ht _ (List.mem_of_getElem? (i := 21) rfl))
  obtain ⟨c9, i9, k9⟩ := u_known (C := RX6) (T := TX6) (N := 2) (n := 2) hts inX6 (ht _ (List.mem_of_getElem? (i := 22) rfl))
  obtain ⟨c10, i10, k10⟩ := u_known (C := RX7) (T := TX7) (N := 34) (n := 34) hts inX7 (ht _ (List.mem_of_getElem? (i := 23) rfl))
  obtain ⟨a0, p0, q0⟩ := ks_prim .int (ht _ (List.mem_of_getElem? (i := 6) rfl))
  obtain ⟨a1, p1, q1⟩ := ks_prim .boolean (ht _ (List.mem_of_getElem? (i := 7) rfl))
  obtain ⟨a2, p2, q2⟩ := ks_prim .char (ht _ (List.mem_of_getElem? (i := 8) rfl))
  obtain ⟨a5, p5, q5⟩ := ks_prim .long (ht _ (List.mem_of_getElem? (i := 9) rfl))
  obtain ⟨a6, p6, q6⟩ := ks_prim .double (ht _ (List.mem_of_getElem? (i := 10) rfl))
  obtain ⟨a3, p3, q3⟩ := ks_obj "Crossdockery$Lorry" (ht _ (List.mem_of_getElem? (i := 11) rfl))
  obtain ⟨a4, p4, q4⟩ := ks_obj "java/lang/Object" (ht _ (List.mem_of_getElem? (i := 12) rfl))
  obtain ⟨mi, hmi⟩ := va_Mi.of (hl _ (List.mem_of_getElem? (i := 2) rfl))
  have hA : ∀ a : Nat, a < s.heap.size → ¬ s.heap.size ≤ a := fun a h => Nat.not_le.mpr h
  obtain ⟨t, e1, e2⟩ := va_Tof (A := fun q => s.heap.size ≤ q) (tm := ks_AL) (ty := .object "java/lang/Object") (N := 0) (f := fun _ => .null) (by omega) (hl _ (List.mem_of_getElem? (i := 0) rfl)) (Cond.eq_int (hl _ (List.mem_of_getElem? (i := 1) rfl)) rfl) (fun j hj => absurd hj (by omega)) hA
  refine ⟨((fun c => match c with | 0 => c0 | 1 => c1 | 2 => c2 | 3 => c3 | 4 => c4 | 5 => c5 | 6 => c6 | 7 => c7 | 8 => c8 | 9 => c9 | _ => c10, fun c => match c with | 0 => i0 | 1 => i1 | 2 => i2 | 3 => i3 | 4 => i4 | 5 => i5 | 6 => i6 | 7 => i7 | 8 => i8 | 9 => i9 | _ => i10), fun k => match k with | 0 => a0 | 1 => a1 | 2 => a2 | 3 => a3 | 4 => a4 | 5 => a5 | 6 => a6 | _ => mi, s.heap, t), rfl, ⟨fun c q hq => ?_, fun k q hk => ?_⟩, ⟨fun w hw => (ks_nw w hw).elim (fun q => va_Nw.of q.1 (hts w q.2)) (fun q => by
    simp only [List.mem_cons, List.not_mem_nil, or_false] at q
    rcases q with rfl | rfl | rfl | rfl
    · exact ks_self k6.2.1
    · exact ks_self k8.2.1
    · exact ks_self k5.2.1
    · exact ks_self k4.2.1), fun x hx => va_Nc.of (hf _ (ks_nc x hx)), fun x hx => ?_⟩, ht _ (List.mem_of_getElem? (i := 11) rfl), ht _ (List.mem_of_getElem? (i := 12) rfl), ?_, e2, hmi, va_Dc.of (ht _ (List.mem_of_getElem? (i := 5) rfl)), ?_, ?_⟩
  · have hlt : c < 11 := (List.getElem?_eq_some_iff.mp hq).1
    have hc : c = 0 ∨ c = 1 ∨ c = 2 ∨ c = 3 ∨ c = 4 ∨ c = 5 ∨ c = 6 ∨ c = 7 ∨ c = 8 ∨ c = 9 ∨ c = 10 := by omega
    rcases hc with rfl | rfl | rfl | rfl | rfl | rfl | rfl | rfl | rfl | rfl | rfl <;> cases hq
    · exact k0
    · exact k1
    · exact k2
    · exact k3
    · exact k4
    · exact k5
    · exact k6
    · exact k7
    · exact k8
    · exact k9
    · exact k10
  · have hlt : k < 7 := (List.getElem?_eq_some_iff.mp hk).1
    have hc : k = 0 ∨ k = 1 ∨ k = 2 ∨ k = 3 ∨ k = 4 ∨ k = 5 ∨ k = 6 := by omega
    rcases hc with rfl | rfl | rfl | rfl | rfl | rfl | rfl <;> cases hk
    · exact ⟨p0, q0⟩
    · exact ⟨p1, q1⟩
    · exact ⟨p2, q2⟩
    · exact ⟨p3, q3⟩
    · exact ⟨p4, q4⟩
    · exact ⟨p5, q5⟩
    · exact ⟨p6, q6⟩
  · obtain ⟨a, c, cA, kA, z1, -⟩ := Cond.exactly_spec (args := #[Value.ref b]) (first := s) (o := none) (s := s) (idx := []) (t := .string x.1 x.2.1) (cls := "java/lang/String") (hf _ (ks_ex x hx))
    exact ⟨a, vk_R.of (hts _ (ks_str x hx)) z1⟩
  · exact va_Zref (ht _ (List.mem_of_getElem? (i := 0) rfl)) (ht _ (List.mem_of_getElem? (i := 3) rfl)) e1 hA
  · exact vx_Zqof (ht _ (List.mem_of_getElem? (i := 1) rfl)) (ht _ (List.mem_of_getElem? (i := 4) rfl)) (hl _ (List.mem_of_getElem? (i := 3) rfl)) hA
  · exact vx_Zqof (ht _ (List.mem_of_getElem? (i := 2) rfl)) (ht _ (List.mem_of_getElem? (i := 4) rfl)) (hl _ (List.mem_of_getElem? (i := 4) rfl)) hA
