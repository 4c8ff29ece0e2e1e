theorem k_pos {z : Nat} (h : 0 < z) (hz : z < 2 ^ 31) : (0 : Int32) < nI z := by
  have := (nI_ltI (a := 0) (b := z) (by decide) hz).mpr h
  rw [nI_0] at this
  exact this
theorem k_sh1 {z : Nat} (h : z < 2 ^ 31) : nI z >>> ((1 : Int32) &&& 31) = nI (z / 2) := pk_shrN h _ 1 (by decide)
theorem k_s1 (z : Nat) : nI (z + 1) - nI z = nI 1 := by
  rw [pk_sub (by omega), show z + 1 - z = 1 by omega]
theorem k_half {z : Nat} (h2 : 2 ≤ z) (hz : z ≤ 80000) : nI z + (if nI 1 < nI (z / 2) then nI (z / 2) else nI 1) = nI (z + z / 2) := by
  by_cases h : nI 1 < nI (z / 2)
  · rw [if_pos h, nI_add]
  · rw [if_neg h, nI_add]
    have := mt (nI_ltI (a := 1) (b := z / 2) (by decide) (by omega)).mpr h
    rw [show z / 2 = 1 by omega]
theorem k_minz {z : Nat} (hz : z ≤ 80000) : (if nI (z + z / 2) < nI z then nI (z + z / 2) else nI z) = nI z := by
  rw [if_neg]
  exact nI_nlt (by omega) (by omega)
theorem k_big {z : Nat} (h : z ≤ 200000) : ¬ nI z > (2147483639 : Int32) := by
  intro q
  have q1 := Int32.lt_iff_toInt_lt.mp q
  rw [nI_toInt (by omega), show (2147483639 : Int32).toInt = 2147483639 by decide] at q1
  omega
section KCOPY
variable {p : Program} {l : Launch} {e : Env} {R : Room} {s : State} {m : MethodId} {args : Array Value} {below : List Frame} {meth : Method} {c : Code} {H : Heap} {locs : List Loc} {cells slots : Nat} {Q : State → Prop}
variable {cc : ByteArray} {pc : Nat} {ls : Array Slot} {rest : List Value} {X : kX} {n : Nat → Nat → Nat} {ad L : Nat → Nat → Nat → Nat} {C : Nat → Nat → Nat → Nat → Int32} {fr : Nat → Option Cell} {ws ws' : va_W} {a : Nat}
/-- a pending Object[] copied from its start on into another -/
theorem k_ncopy (hexec : p.tables.exec = Jvm.exec) (hb : c.code = cc) (hml : c.maxLocals = ls.size) {own : String} {index : Nat} (hown : s.vm.findClass own = some m.cls) (hlink : (Cond.methodLink own index arraycopyName).before args s = true) (hnat : (Cond.native arraycopyName).before args s = true) (hstat : (Cond.static arraycopyName).before args s = true) (hini : (Cond.initialized "java/lang/System").before args s = true)
    (hK : k_S X s) (hW : k_N X n ad L C fr ws H) (hL : ∀ q ∈ locs, k_B X ≤ q.base) (k0 k1 : Nat) {a0 : Nat} {n0 n1 N : Nat} {f g : Nat → Option Nat} (ha0 : ws[k0]? = some (a0, .inl (X.2.1 4, n0, .inr (.inr (.inr (.inr f)))))) (ha1 : ws[k1]? = some (a, .inl (X.2.1 4, n1, .inr (.inr (.inr (.inr g))))))
    (hN : N < 2 ^ 31) (h4 : N ≤ n0) (h5 : N ≤ n1) (hel : ∀ i : Nat, i < N → ∀ y : Nat, f i = some y → va_Any "java/lang/Object" s H y) (hset : ws.set k1 (a, .inl (X.2.1 4, n1, .inr (.inr (.inr (.inr (va_cpy f g 0 0 N)))))) = ws')
    (hframes : 1 ≤ R.frames) (hlocals : (rest.map fun v => v.category).sum + (nativeFrameWords "java/lang/System" "arraycopy" 5 + 11) ≤ R.locals) (hdg : decode cc pc = .ok (.invokestatic index, 3))
    (kk : ∀ (H1 : Heap) (locs1 : List Loc), k_N X n ad L C fr ws' H1 → (∀ q ∈ locs1, k_B X ≤ q.base) → W p l e R s m args below meth c H1 locs1 cells slots Q (F0 m (pc + 3) ls rest)) : W p l e R s m args below meth c H locs cells slots Q (F0 m pc ls (.int (nI N) :: .int 0 :: .ref a :: .int 0 :: .ref a0 :: rest)) := by
  subst hset
  have z0 : (0 : Int32).toNatClampNeg = 0 := by decide
  have zN : (nI N).toNatClampNeg = N := nI_clamp hN
  have i0 : (0 : Int32).toInt = 0 := by decide
  have iN : (nI N).toInt = (N : Int) := nI_toInt hN
  intro T hT Y
  have hc0 : H[a0]? = some (vp_cell (X.2.1 4) (n0, .inr (.inr (.inr (.inr f))))) := hW.2.1 k0 _ ha0
  have hc1 : H[a]? = some (vp_cell (X.2.1 4) (n1, .inr (.inr (.inr (.inr g))))) := hW.2.1 k1 _ ha1
  obtain ⟨-, kA0, hk0, cm0, hkk0⟩ := (hK.1.2 4 _ rfl).1 n0 (fun j => va_rf (f j))
  obtain ⟨kA, comp, r1, r2, r3, -⟩ := (hK.1.2 4 _ rfl).2
  obtain ⟨vm', Y', step⟩ := Y.arraycopy hexec hown hlink hnat hstat hini (src := a0) (dst := a) (cs := vp_cell (X.2.1 4) (n0, .inr (.inr (.inr (.inr f))))) (cd := vp_cell (X.2.1 4) (n1, .inr (.inr (.inr (.inr g))))) (srcPos := 0) (destPos := 0) (n := nI N) (by rw [hT]; exact hc0) (by rw [hT]; exact hc1)
    (fun _ h => by cases h) (fun _ h => by cases h) (fun h => by cases h) (fun h => by cases h) hk0 hk0 hkk0 hkk0 rfl (by decide) (by decide) (nI_pos hN)
    (by rw [i0, iN]; show ¬ _ > ((arrV (X.2.1 4) n0 (fun j => va_rf (f j))).slots.size : Int); rw [arrV_size]; omega)
    (by rw [i0, iN]; show ¬ _ > ((arrV (X.2.1 4) n1 (fun j => va_rf (g j))).slots.size : Int); rw [arrV_size]; omega)
    (fun vm₁ hal i hi => by
      rw [zN] at hi
      have e0 : (vp_cell (X.2.1 4) (n0, .inr (.inr (.inr (.inr f))))).slots.getD ((0 : Int32).toNatClampNeg + i) .null = va_rf (f i) := by
        rw [z0, Nat.zero_add]
        show (arrV (X.2.1 4) n0 (fun j => va_rf (f j))).slots.getD _ _ = _
        rw [Array.getD_eq_getD_getElem?, arrV_read _ _ (by omega)]
        rfl
      rw [e0]
      cases hy : f i with
      | none => exact ⟨rfl, trivial⟩
      | some y =>
        obtain ⟨cellV, g1, g2, ⟨kC, hkC⟩, hasg⟩ := hel i hi y hy
        cases hk0.symm.trans r1
        cases hkk0.symm.trans r2
        obtain ⟨kE, hkE, -⟩ := Vm.findClass_spec r3
        obtain ⟨kC', hkC', -⟩ := hal.2.2 _ _ hkC
        obtain ⟨kE', hkE', -⟩ := hal.2.2 _ _ hkE
        refine ⟨rfl, cellV, (show T.heap[y]? = some cellV by rw [hT]; exact g1), (fun q h => by rw [h] at g2; cases g2), ⟨kC', hkC'⟩, ⟨kE', hkE'⟩, ?_⟩
        show vm₁.assignable _ _ = true
        rw [hal.assignable]
        exact hasg _ r3)
    (g := F0 m pc ls (.int (nI N) :: .int 0 :: .ref a :: .int 0 :: .ref a0 :: rest)) rfl (by rw [hml]) (rest := rest) rfl (by rw [hb]; exact hdg) hframes (by show 2 * 0 + _ + _ ≤ _; omega)
  have e1 : copied (vp_cell (X.2.1 4) (n0, .inr (.inr (.inr (.inr f))))) (vp_cell (X.2.1 4) (n1, .inr (.inr (.inr (.inr g))))) 0 0 (nI N) = vp_cell (X.2.1 4) (n1, .inr (.inr (.inr (.inr (va_cpy f g 0 0 N))))) := by
    have q := va_copied (fun z => va_rf z) (X.2.1 4) (X.2.1 4) (n1 := n1) (dp := (0 : Int32).toNatClampNeg) f g (show (0 : Int32).toNatClampNeg + (nI N).toNatClampNeg ≤ n0 by rw [z0, zN]; omega)
    rw [vp_cell_q, vp_cell_q, vp_cell_q]
    refine Eq.trans (b := arrV (X.2.1 4) n1 (fun j => va_rf (va_cpy f g (0 : Int32).toNatClampNeg (0 : Int32).toNatClampNeg (nI N).toNatClampNeg j))) q ?_
    rw [z0, zN]
  rw [e1] at Y' step
  have hlt : a < H.size := (Array.getElem?_eq_some_iff.mp hc1).1
  have hheap : ((T.setVm vm').setCell a (vp_cell (X.2.1 4) (n1, .inr (.inr (.inr (.inr (va_cpy f g 0 0 N))))))).heap = H.setIfInBounds a (vp_cell (X.2.1 4) (n1, .inr (.inr (.inr (.inr (va_cpy f g 0 0 N)))))) := by rw [← hT]; rfl
  generalize hH1 : H.setIfInBounds a (vp_cell (X.2.1 4) (n1, .inr (.inr (.inr (.inr (va_cpy f g 0 0 N)))))) = H1 at hheap
  have oq : ∀ q : Nat, q ≠ a → H1[q]? = H[q]? := fun q hq => by rw [← hH1]; simp [Array.getElem?_setIfInBounds, Ne.symm hq]
  have z1 : H1.size = H.size := by rw [← hH1]; simp
  obtain ⟨t, a1, b1⟩ := kk H1 _ (hW.set ha1 z1 oq (show H1[a]? = some _ by rw [← hH1]; simp [Array.getElem?_setIfInBounds, hlt])) (fun q hq => by
      rcases List.mem_append.mp hq with h | h
      · exact hL q h
      · obtain ⟨z, -, hz⟩ := List.mem_map.mp h
        rw [← hz]
        exact (hW.2.2.2 k1 _ ha1).1) _ hheap Y'
  exact ⟨t, step t a1, b1⟩
end KCOPY

set_option maxHeartbeats 400000 in
set_option maxRecDepth 100000 in
theorem c_J8_newLength_cabcc_C (X : kX) (l : Launch) (P0 : Heap → Prop) (z : Nat) (h2 : 2 ≤ z) (hz : z ≤ 80000) : k_M X l yJ8_newLength_cabcc wsJ8_newLength_cabcc ({ frames := 1, cells := 0, slots := 0, locals := 21 }) [.int (nI z), .int (nI 1), .int (nI (z / 2))] (P0) (fun v9 H => v9 = some (.int (nI (z + z / 2))) ∧ P0 H) 0 0 := by
  refine k_M.of (cc := cJ8_newLength_cabcc) (maxL := 4) (ret := (some .int)) (by decide) rfl (Nat.le_of_ble_eq_true rfl) ?_
  intro p e s m args below meth c ls hx hb hr hml hown hts hlocks hnm hK hW hl
  have hL : ∀ q ∈ ([] : List Loc), k_B X ≤ q.base := fun _ h => nomatch h
  have hl : lv_has ls 4 [(0, .int (nI z)), (1, .int (nI 1)), (2, .int (nI (z / 2)))] := hl
  refine lv_iload_n hx hb dJ8_newLength_cabcc_0 rfl (lv_at hl 0 rfl) ?_
  refine lv_iload_n hx hb dJ8_newLength_cabcc_1 rfl (lv_at hl 1 rfl) ?_
  refine lv_iload_n hx hb dJ8_newLength_cabcc_2 rfl (lv_at hl 2 rfl) ?_
  refine va_mmax hx hb (by rw [hml]; exact hl.1.symm) hown (hts (.methodLink RJ8 194 Lib.Math.max.name) (by decide +kernel)) (hts (.static Lib.Math.max.name) (by decide +kernel)) (hts (.initialized "java/lang/Math") (by decide +kernel)) (hts (.code Lib.Math.max.name Lib.Math.max.code 2 (some .int)) (by decide +kernel)) (Nat.le_of_ble_eq_true rfl) (Nat.le_of_ble_eq_true rfl) (Nat.le_of_ble_eq_true rfl) (Nat.le_of_ble_eq_true rfl) dJ8_newLength_cabcc_3 ?_
  refine lv_iadd hx hb dJ8_newLength_cabcc_6 ?_
  refine W.eq (g2 := F0 m 7 ls [.int (nI (z + z / 2))]) (by rw [k_half h2 hz]) ?_
  refine lv_istore_n (lv' := [(3, .int (nI (z + z / 2))), (0, .int (nI z)), (1, .int (nI 1)), (2, .int (nI (z / 2)))]) hx hb dJ8_newLength_cabcc_7 rfl hl (by decide) rfl (fun ls hl => ?_)
  refine lv_iconst (v := 0) hx hb dJ8_newLength_cabcc_8 (by decide) ?_
  refine lv_iload_n hx hb dJ8_newLength_cabcc_9 rfl (lv_at hl 0 rfl) ?_
  refine lv_icmp_ge (tgt := 21) hx hb dJ8_newLength_cabcc_10 (by decide) (fun c1 => ?_) (fun c1 => ?_)
  ·
    exact absurd (k_pos (by omega) (by omega)) (Int32.not_lt.mpr c1)
  ·
    refine lv_iload_n hx hb dJ8_newLength_cabcc_13 rfl (lv_at hl 0 rfl) ?_
    refine lv_ldc (v := 2147483639) hx hb hown (hts (.constant RJ8 200 (2147483639)) (by decide +kernel)) dJ8_newLength_cabcc_14 ?_
    refine lv_icmp_gt (tgt := 21) hx hb dJ8_newLength_cabcc_16 (by decide) (fun c2 => ?_) (fun c2 => ?_)
    ·
      exact absurd c2 (k_big (by omega))
    ·
      refine lv_iload_n hx hb dJ8_newLength_cabcc_19 rfl (lv_at hl 0 rfl) ?_
      exact k_iret hx hb hr hlocks (⟨rfl, hW⟩) hL dJ8_newLength_cabcc_20
set_option maxHeartbeats 400000 in
set_option maxRecDepth 100000 in
theorem c_J7_copyOf_6403c_C (X : kX) (l : Launch) {n : Nat → Nat → Nat} {ad L : Nat → Nat → Nat → Nat} {C : Nat → Nat → Nat → Nat → Int32} {fr : Nat → Option Cell} {ws : va_W} (a b : Nat) (mo : Int32) (z : Nat) (f : Nat → Option Nat) (h2 : 2 ≤ z) (hz : z ≤ 80000) (hel : ∀ (s : State) (H : Heap), k_S X s → k_W X n ad L C fr H → ∀ (i y : Nat), f i = some y → va_Any "java/lang/Object" s H y) : k_M X l yJ7_copyOf_6403c wsJ7_copyOf_6403c ({ frames := 1, cells := 1, slots := z + z / 2, locals := 60 }) [.ref b, .int (nI (z + z / 2)), .ref (X.2.1 7)] (k_N X n ad L C fr ((a, .inr (3, [.int mo, .ref b, .int (nI z)])) :: (b, .inl (X.2.1 4, z, .inr (.inr (.inr (.inr (f)))))) :: ws)) (fun v9 H => ∃ q, v9 = some (.ref q) ∧ k_N X n ad L C fr ((q, .inl (X.2.1 4, z + z / 2, .inr (.inr (.inr (.inr (va_cpy f (fun _ => none) 0 0 z)))))) :: (a, .inr (3, [.int mo, .ref b, .int (nI z)])) :: (b, .inl (X.2.1 4, z, .inr (.inr (.inr (.inr (f)))))) :: ws) H) 1 (z + z / 2) := by
  refine k_M.of (cc := cJ7_copyOf_6403c) (maxL := 4) (ret := (some (.array (.object "java/lang/Object")))) (by decide) rfl (Nat.le_of_ble_eq_true rfl) ?_
  intro p e s m args below meth c ls hx hb hr hml hown hts hlocks hnm hK hW hl
  have hL : ∀ q ∈ ([] : List Loc), k_B X ≤ q.base := fun _ h => nomatch h
  have hl : lv_has ls 4 [(0, .ref b), (1, .int (nI (z + z / 2))), (2, .ref (X.2.1 7))] := hl
  refine lv_aload_n hx hb dJ7_copyOf_6403c_0 rfl (lv_at hl 2 rfl) ?_
  refine va_ldcM (mi := X.2.1 7) hx hb hown (hts (.classLink RJ7 110 "[Ljava/lang/Object;") (by decide +kernel)) hK.2.2.2.2.2.2.1 dJ7_copyOf_6403c_1 ?_
  refine lv_acmp_ne (rx := some (X.2.1 7)) (ry := some (X.2.1 7)) (tgt := 13) hx hb dJ7_copyOf_6403c_3 (by decide) (fun h => absurd rfl h) (fun _ => ?_)
  refine lv_iload_n hx hb dJ7_copyOf_6403c_6 rfl (lv_at hl 1 rfl) ?_
  refine k_newq hx hb hown (hts (.classLink RJ7 2 "java/lang/Object") (by decide +kernel)) hK.2.2.2.1 4 rfl hK hW (nI_pos (by omega)) (N' := z + z / 2) (nI_clamp (by omega)) (by omega) (Nat.le_of_ble_eq_true rfl) (Nat.le_of_eq (Nat.zero_add _)) dJ7_copyOf_6403c_7 (fun q1 H hW => ?_)
  refine lv_goto (tgt := 24) hx hb dJ7_copyOf_6403c_10 (by decide) ?_
  refine lv_astore_n (lv' := [(3, .ref q1), (0, .ref b), (1, .int (nI (z + z / 2))), (2, .ref (X.2.1 7))]) hx hb dJ7_copyOf_6403c_24 rfl hl (by decide) rfl (fun ls hl => ?_)
  refine lv_aload_n hx hb dJ7_copyOf_6403c_25 rfl (lv_at hl 1 rfl) ?_
  refine lv_iconst (v := 0) hx hb dJ7_copyOf_6403c_26 (by decide) ?_
  refine lv_aload_n hx hb dJ7_copyOf_6403c_27 rfl (lv_at hl 0 rfl) ?_
  refine lv_iconst (v := 0) hx hb dJ7_copyOf_6403c_28 (by decide) ?_
  refine lv_aload_n hx hb dJ7_copyOf_6403c_29 rfl (lv_at hl 1 rfl) ?_
  refine va_alen hx hb hK.1 hW.2.1 2 4 rfl rfl (v := nI z) rfl dJ7_copyOf_6403c_30 ?_
  refine lv_iload_n hx hb dJ7_copyOf_6403c_31 rfl (lv_at hl 2 rfl) ?_
  refine va_mmin hx hb (by rw [hml]; exact hl.1.symm) hown (hts (.methodLink RJ7 304 Lib.Math.min.name) (by decide +kernel)) (hts (.static Lib.Math.min.name) (by decide +kernel)) (hts (.initialized "java/lang/Math") (by decide +kernel)) (hts (.code Lib.Math.min.name Lib.Math.min.code 2 (some .int)) (by decide +kernel)) (Nat.le_of_ble_eq_true rfl) (Nat.le_of_ble_eq_true rfl) (Nat.le_of_ble_eq_true rfl) (Nat.le_of_eq (Nat.zero_add _)) dJ7_copyOf_6403c_32 ?_
  refine W.eq (g2 := F0 m 35 ls [.int (nI z), .int 0, .ref q1, .int 0, .ref b]) (by rw [k_minz hz]) ?_
  refine k_ncopy (N := z) hx hb (by rw [hml]; exact hl.1.symm) hown (hts (.methodLink RJ7 150 arraycopyName) (by decide +kernel)) (hts (.native arraycopyName) (by decide +kernel)) (hts (.static arraycopyName) (by decide +kernel)) (hts (.initialized "java/lang/System") (by decide +kernel)) hK hW hL 2 0 rfl rfl (by omega) (by omega) (by omega) (fun i _ y h => hel _ _ hK hW.1 i y h) (ws' := (q1, .inl (X.2.1 4, z + z / 2, .inr (.inr (.inr (.inr (va_cpy f (fun _ => none) 0 0 z)))))) :: (a, .inr (3, [.int mo, .ref b, .int (nI z)])) :: (b, .inl (X.2.1 4, z, .inr (.inr (.inr (.inr (f)))))) :: ws) rfl (Nat.le_of_ble_eq_true rfl) (Nat.le_of_ble_eq_true rfl) dJ7_copyOf_6403c_35 (fun H locs hW hL => ?_)
  refine lv_aload_n hx hb dJ7_copyOf_6403c_38 rfl (lv_at hl 0 rfl) ?_
  refine k_more (cells' := 1) (slots' := z + z / 2) (Nat.le_of_ble_eq_true rfl) (Nat.le_of_eq (Nat.zero_add _)) ?_
  exact k_aretA (v := some q1) hx hb hr hlocks (⟨_, rfl, hW⟩) hL dJ7_copyOf_6403c_39
set_option maxHeartbeats 400000 in
set_option maxRecDepth 100000 in
theorem c_J7_copyOf_1904c_C (X : kX) (l : Launch) {n : Nat → Nat → Nat} {ad L : Nat → Nat → Nat → Nat} {C : Nat → Nat → Nat → Nat → Int32} {fr : Nat → Option Cell} {ws : va_W} (a b : Nat) (mo : Int32) (z : Nat) (f : Nat → Option Nat) (h2 : 2 ≤ z) (hz : z ≤ 80000) (hel : ∀ (s : State) (H : Heap), k_S X s → k_W X n ad L C fr H → ∀ (i y : Nat), f i = some y → va_Any "java/lang/Object" s H y) : k_M X l yJ7_copyOf_1904c wsJ7_copyOf_1904c ({ frames := 2, cells := 1, slots := z + z / 2, locals := 83 }) [.ref b, .int (nI (z + z / 2))] (k_N X n ad L C fr ((a, .inr (3, [.int mo, .ref b, .int (nI z)])) :: (b, .inl (X.2.1 4, z, .inr (.inr (.inr (.inr (f)))))) :: ws)) (fun v9 H => ∃ q, v9 = some (.ref q) ∧ k_N X n ad L C fr ((q, .inl (X.2.1 4, z + z / 2, .inr (.inr (.inr (.inr (va_cpy f (fun _ => none) 0 0 z)))))) :: (a, .inr (3, [.int mo, .ref b, .int (nI z)])) :: (b, .inl (X.2.1 4, z, .inr (.inr (.inr (.inr (f)))))) :: ws) H) 1 (z + z / 2) := by
  refine k_M.of (cc := cJ7_copyOf_1904c) (maxL := 2) (ret := (some (.array (.object "java/lang/Object")))) (by decide) rfl (Nat.le_of_ble_eq_true rfl) ?_
  intro p e s m args below meth c ls hx hb hr hml hown hts hlocks hnm hK hW hl
  have hL : ∀ q ∈ ([] : List Loc), k_B X ≤ q.base := fun _ h => nomatch h
  have hl : lv_has ls 2 [(0, .ref b), (1, .int (nI (z + z / 2)))] := hl
  refine lv_aload_n hx hb dJ7_copyOf_1904c_0 rfl (lv_at hl 0 rfl) ?_
  refine lv_iload_n hx hb dJ7_copyOf_1904c_1 rfl (lv_at hl 1 rfl) ?_
  refine lv_aload_n hx hb dJ7_copyOf_1904c_2 rfl (lv_at hl 0 rfl) ?_
  refine va_getC (C := "[Ljava/lang/Object;") (mi := X.2.1 7) hx hb (by rw [hml]; exact hl.1.symm) hown (hts (.methodLink RJ7 86 ⟨"java/lang/Object", "getClass", "()Ljava/lang/Class;"⟩) (by decide +kernel)) (va_Dc.use hK.2.2.2.2.2.2.2.1) (hts (.selects "[Ljava/lang/Object;" ⟨"java/lang/Object", "getClass", "()Ljava/lang/Class;"⟩ ⟨"java/lang/Object", "getClass", "()Ljava/lang/Class;"⟩) (by decide +kernel)) (hts (.instanceMethod ⟨"java/lang/Object", "getClass", "()Ljava/lang/Class;"⟩) (by decide +kernel)) (hts (.native ⟨"java/lang/Object", "getClass", "()Ljava/lang/Class;"⟩) (by decide +kernel)) hK.2.2.2.2.2.2.1 ⟨_, hW.2.1 1 _ rfl, rfl, va_nmO (hK.1.2 4 _ rfl).2 (by decide +kernel)⟩ (Nat.le_of_ble_eq_true rfl) (Nat.le_of_ble_eq_true rfl) dJ7_copyOf_1904c_3 ?_
  refine k_callS (As := [.ref b, .int (nI (z + z / 2)), .ref (X.2.1 7)]) (rest := []) ⟨hx, hb, hml, hown, hts⟩ hK (c_J7_copyOf_6403c_C X l a b mo z f h2 hz hel) (va_cwS 3 hts gJ7_copyOf_1904c_J7_copyOf_6403c rfl rfl rfl (by decide +kernel) ⟨Nat.le_of_ble_eq_true rfl, Nat.le_of_ble_eq_true rfl⟩) hW rfl hl.1 rfl (Nat.le_of_ble_eq_true rfl) dJ7_copyOf_1904c_6 ⟨Nat.le_of_ble_eq_true rfl, Nat.le_of_eq (Nat.zero_add _)⟩ hL (fun v9 H locs hp hL => ?_)
  obtain ⟨q1, rfl, hW⟩ := hp
  refine k_more (cells' := 1) (slots' := z + z / 2) (Nat.le_of_ble_eq_true rfl) (Nat.le_of_eq (Nat.zero_add _)) ?_
  exact k_aretA (v := some q1) hx hb hr hlocks (⟨_, rfl, hW⟩) hL dJ7_copyOf_1904c_9
set_option maxHeartbeats 400000 in
set_option maxRecDepth 100000 in
theorem c_Jx4a65c_grow_92f84_C (X : kX) (l : Launch) {n : Nat → Nat → Nat} {ad L : Nat → Nat → Nat → Nat} {C : Nat → Nat → Nat → Nat → Int32} {fr : Nat → Option Cell} {ws : va_W} (a b : Nat) (mo : Int32) (z : Nat) (f : Nat → Option Nat) (h2 : 2 ≤ z) (hz : z ≤ 80000) (hel : ∀ (s : State) (H : Heap), k_S X s → k_W X n ad L C fr H → ∀ (i y : Nat), f i = some y → va_Any "java/lang/Object" s H y) : k_M X l yJx4a65c_grow_92f84 wsJx4a65c_grow_92f84 ({ frames := 3, cells := 1, slots := z + z / 2, locals := 104 }) [.ref a, .int (nI (z + 1))] (k_N X n ad L C fr ((a, .inr (3, [.int mo, .ref b, .int (nI z)])) :: (b, .inl (X.2.1 4, z, .inr (.inr (.inr (.inr (f)))))) :: ws)) (fun v9 H => ∃ q, v9 = some (.ref q) ∧ k_N X n ad L C fr ((q, .inl (X.2.1 4, z + z / 2, .inr (.inr (.inr (.inr (va_cpy f (fun _ => none) 0 0 z)))))) :: (a, .inr (3, [.int mo, .ref q, .int (nI z)])) :: (b, .inl (X.2.1 4, z, .inr (.inr (.inr (.inr (f)))))) :: ws) H) 1 (z + z / 2) := by
  refine k_M.of (cc := cJx4a65c_grow_92f84) (maxL := 4) (ret := (some (.array (.object "java/lang/Object")))) (by decide) rfl (Nat.le_of_ble_eq_true rfl) ?_
  intro p e s m args below meth c ls hx hb hr hml hown hts hlocks hnm hK hW hl
  have hL : ∀ q ∈ ([] : List Loc), k_B X ≤ q.base := fun _ h => nomatch h
  have hl : lv_has ls 4 [(0, .ref a), (1, .int (nI (z + 1)))] := hl
  have fJx4a65c : ∀ w ∈ u_ws RJx4a65c TJx4a65c 3, w.before args s = true := fun w h => hts w ((by decide +kernel : ∀ w ∈ u_ws RJx4a65c TJx4a65c 3, w ∈ wsJx4a65c_grow_92f84) w h)
  refine lv_aload_n hx hb dJx4a65c_grow_92f84_0 rfl (lv_at hl 0 rfl) ?_
  refine va_get (C := RJx4a65c) (T := TJx4a65c) (N := 3) (v := .ref b) hx hb fJx4a65c (fun _ h => h) hown hK.1 hW.2.1 0 rfl rfl 1 (by decide) (hts (.fieldLink RJx4a65c 9 "java/util/ArrayList" "elementData" "[Ljava/lang/Object;") (by decide +kernel)) (fun x h => h) rfl dJx4a65c_grow_92f84_1 ?_
  refine va_alen hx hb hK.1 hW.2.1 1 4 rfl rfl (v := nI z) rfl dJx4a65c_grow_92f84_4 ?_
  refine lv_istore_n (lv' := [(2, .int (nI z)), (0, .ref a), (1, .int (nI (z + 1)))]) hx hb dJx4a65c_grow_92f84_5 rfl hl (by decide) rfl (fun ls hl => ?_)
  refine lv_iload_n hx hb dJx4a65c_grow_92f84_6 rfl (lv_at hl 0 rfl) ?_
  refine lv_if_gt (tgt := 20) hx hb dJx4a65c_grow_92f84_7 (by decide) (fun c1 => ?_) (fun c1 => ?_)
  ·
    refine lv_iload_n hx hb dJx4a65c_grow_92f84_20 rfl (lv_at hl 0 rfl) ?_
    refine lv_iload_n hx hb dJx4a65c_grow_92f84_21 rfl (lv_at hl 2 rfl) ?_
    refine lv_iload_n hx hb dJx4a65c_grow_92f84_22 rfl (lv_at hl 0 rfl) ?_
    refine lv_isub hx hb dJx4a65c_grow_92f84_23 ?_
    refine lv_iload_n hx hb dJx4a65c_grow_92f84_24 rfl (lv_at hl 0 rfl) ?_
    refine lv_iconst (v := 1) hx hb dJx4a65c_grow_92f84_25 (by decide) ?_
    refine lv_ishr hx hb dJx4a65c_grow_92f84_26 ?_
    refine W.eq (g2 := F0 m 27 ls [.int (nI (z / 2)), .int (nI 1), .int (nI z)]) (by rw [k_sh1 (by omega), k_s1]) ?_
    refine k_callS (As := [.int (nI z), .int (nI 1), .int (nI (z / 2))]) (rest := []) ⟨hx, hb, hml, hown, hts⟩ hK (c_J8_newLength_cabcc_C X l (k_N X n ad L C fr ((a, .inr (3, [.int mo, .ref b, .int (nI z)])) :: (b, .inl (X.2.1 4, z, .inr (.inr (.inr (.inr (f)))))) :: ws)) z h2 hz) (va_cwS 3 hts gJx4a65c_grow_92f84_J8_newLength_cabcc rfl rfl rfl (by decide +kernel) ⟨Nat.le_of_ble_eq_true rfl, Nat.le_of_ble_eq_true rfl⟩) hW rfl hl.1 rfl (Nat.le_of_ble_eq_true rfl) dJx4a65c_grow_92f84_27 ⟨Nat.le_of_ble_eq_true rfl, Nat.le_of_ble_eq_true rfl⟩ hL (fun v9 H locs hp hL => ?_)
    obtain ⟨rfl, hW⟩ := hp
    refine lv_istore_n (lv' := [(3, .int (nI (z + z / 2))), (2, .int (nI z)), (0, .ref a), (1, .int (nI (z + 1)))]) hx hb dJx4a65c_grow_92f84_30 rfl hl (by decide) rfl (fun ls hl => ?_)
    refine lv_aload_n hx hb dJx4a65c_grow_92f84_31 rfl (lv_at hl 2 rfl) ?_
    refine lv_aload_n hx hb dJx4a65c_grow_92f84_32 rfl (lv_at hl 2 rfl) ?_
    refine va_get (C := RJx4a65c) (T := TJx4a65c) (N := 3) (v := .ref b) hx hb fJx4a65c (fun _ h => h) hown hK.1 hW.2.1 0 rfl rfl 1 (by decide) (hts (.fieldLink RJx4a65c 9 "java/util/ArrayList" "elementData" "[Ljava/lang/Object;") (by decide +kernel)) (fun x h => h) rfl dJx4a65c_grow_92f84_33 ?_
    refine lv_iload_n hx hb dJx4a65c_grow_92f84_36 rfl (lv_at hl 0 rfl) ?_
    refine k_callS (As := [.ref b, .int (nI (z + z / 2))]) (rest := [.ref a]) ⟨hx, hb, hml, hown, hts⟩ hK (c_J7_copyOf_1904c_C X l a b mo z f h2 hz hel) (va_cwS 2 hts gJx4a65c_grow_92f84_J7_copyOf_1904c rfl rfl rfl (by decide +kernel) ⟨Nat.le_of_ble_eq_true rfl, Nat.le_of_ble_eq_true rfl⟩) hW rfl hl.1 rfl (Nat.le_of_ble_eq_true rfl) dJx4a65c_grow_92f84_37 ⟨Nat.le_of_ble_eq_true rfl, Nat.le_of_eq (Nat.zero_add _)⟩ hL (fun v9 H locs hp hL => ?_)
    obtain ⟨q2, rfl, hW⟩ := hp
    refine lv_dup_x1 hx hb dJx4a65c_grow_92f84_40 rfl rfl ?_
    refine k_nput (K := RJx4a65c) (T := TJx4a65c) (N := 3) (v := .ref q2) (ty := tyJx4a65c 1) hx hb fJx4a65c tyJx4a65c tyJx4a65c_ok nmJx4a65c hown hK hW hL 1 rfl rfl 1 (by decide) (hts (.fieldLink RJx4a65c 9 "java/util/ArrayList" "elementData" "[Ljava/lang/Object;") (by decide +kernel)) (fun x h => h) rfl (tyJx4a65c_ok 1 (by decide)) rfl rfl (Nat.le_of_ble_eq_true rfl) (ws' := (q2, .inl (X.2.1 4, z + z / 2, .inr (.inr (.inr (.inr (va_cpy f (fun _ => none) 0 0 z)))))) :: (a, .inr (3, [.int mo, .ref q2, .int (nI z)])) :: (b, .inl (X.2.1 4, z, .inr (.inr (.inr (.inr (f)))))) :: ws) rfl dJx4a65c_grow_92f84_41 (fun H locs hW hL => ?_)
    refine k_more (cells' := 1) (slots' := z + z / 2) (Nat.le_of_ble_eq_true rfl) (Nat.le_of_eq (Nat.zero_add _)) ?_
    exact k_aretA (v := some q2) hx hb hr hlocks (⟨_, rfl, hW⟩) hL dJx4a65c_grow_92f84_44
  ·
    exact absurd (k_pos (by omega) (by omega)) c1
set_option maxHeartbeats 400000 in
set_option maxRecDepth 100000 in
theorem c_Jx4a65c_grow_d5877_C (X : kX) (l : Launch) {n : Nat → Nat → Nat} {ad L : Nat → Nat → Nat → Nat} {C : Nat → Nat → Nat → Nat → Int32} {fr : Nat → Option Cell} {ws : va_W} (a b : Nat) (mo : Int32) (z : Nat) (f : Nat → Option Nat) (h2 : 2 ≤ z) (hz : z ≤ 80000) (hel : ∀ (s : State) (H : Heap), k_S X s → k_W X n ad L C fr H → ∀ (i y : Nat), f i = some y → va_Any "java/lang/Object" s H y) : k_M X l yJx4a65c_grow_d5877 wsJx4a65c_grow_d5877 ({ frames := 4, cells := 1, slots := z + z / 2, locals := 127 }) [.ref a] (k_N X n ad L C fr ((a, .inr (3, [.int mo, .ref b, .int (nI z)])) :: (b, .inl (X.2.1 4, z, .inr (.inr (.inr (.inr (f)))))) :: ws)) (fun v9 H => ∃ q, v9 = some (.ref q) ∧ k_N X n ad L C fr ((q, .inl (X.2.1 4, z + z / 2, .inr (.inr (.inr (.inr (va_cpy f (fun _ => none) 0 0 z)))))) :: (a, .inr (3, [.int mo, .ref q, .int (nI z)])) :: (b, .inl (X.2.1 4, z, .inr (.inr (.inr (.inr (f)))))) :: ws) H) 1 (z + z / 2) := by
  refine k_M.of (cc := cJx4a65c_grow_d5877) (maxL := 1) (ret := (some (.array (.object "java/lang/Object")))) (by decide) rfl (Nat.le_of_ble_eq_true rfl) ?_
  intro p e s m args below meth c ls hx hb hr hml hown hts hlocks hnm hK hW hl
  have hL : ∀ q ∈ ([] : List Loc), k_B X ≤ q.base := fun _ h => nomatch h
  have hl : lv_has ls 1 [(0, .ref a)] := hl
  have fJx4a65c : ∀ w ∈ u_ws RJx4a65c TJx4a65c 3, w.before args s = true := fun w h => hts w ((by decide +kernel : ∀ w ∈ u_ws RJx4a65c TJx4a65c 3, w ∈ wsJx4a65c_grow_d5877) w h)
  refine lv_aload_n hx hb dJx4a65c_grow_d5877_0 rfl (lv_at hl 0 rfl) ?_
  refine lv_aload_n hx hb dJx4a65c_grow_d5877_1 rfl (lv_at hl 0 rfl) ?_
  refine va_get (C := RJx4a65c) (T := TJx4a65c) (N := 3) (v := .int (nI z)) hx hb fJx4a65c (fun _ h => h) hown hK.1 hW.2.1 0 rfl rfl 2 (by decide) (hts (.fieldLink RJx4a65c 48 "java/util/ArrayList" "size" "I") (by decide +kernel)) (fun x h => h) rfl dJx4a65c_grow_d5877_2 ?_
  refine lv_iconst (v := 1) hx hb dJx4a65c_grow_d5877_5 (by decide) ?_
  refine lv_iadd hx hb dJx4a65c_grow_d5877_6 ?_
  refine W.eq (g2 := F0 m 7 ls [.int (nI (z + 1)), .ref a]) (by rw [nI_1]) ?_
  refine k_callV (As := [.int (nI (z + 1))]) (rest := []) ⟨hx, hb, hml, hown, hts⟩ hK (c_Jx4a65c_grow_92f84_C X l a b mo z f h2 hz hel) (cwV 1 hts gJx4a65c_grow_d5877_Jx4a65c_grow_92f84 rfl rfl rfl (by decide +kernel) ⟨Nat.le_of_ble_eq_true rfl, Nat.le_of_ble_eq_true rfl⟩) (va_recv (q0 := 0) (ci := 3) hK.1 hW.2.1 rfl rfl) hW rfl hl.1 rfl (Nat.le_of_ble_eq_true rfl) dJx4a65c_grow_d5877_7 ⟨Nat.le_of_ble_eq_true rfl, Nat.le_of_eq (Nat.zero_add _)⟩ hL (fun v9 H locs hp hL => ?_)
  obtain ⟨q1, rfl, hW⟩ := hp
  refine k_more (cells' := 1) (slots' := z + z / 2) (Nat.le_of_ble_eq_true rfl) (Nat.le_of_eq (Nat.zero_add _)) ?_
  exact k_aretA (v := some q1) hx hb hr hlocks (⟨_, rfl, hW⟩) hL dJx4a65c_grow_d5877_10
set_option maxHeartbeats 400000 in
set_option maxRecDepth 100000 in
theorem c_Jx4a65c_add_72be8_C (X : kX) (l : Launch) {n : Nat → Nat → Nat} {ad L : Nat → Nat → Nat → Nat} {C : Nat → Nat → Nat → Nat → Int32} {fr : Nat → Option Cell} {ws : va_W} (a b v : Nat) (mo : Int32) (z : Nat) (f : Nat → Option Nat) (h2 : 2 ≤ z) (hz : z ≤ 80000) (hel : ∀ (s : State) (H : Heap), k_S X s → k_W X n ad L C fr H → ∀ (i y : Nat), f i = some y → va_Any "java/lang/Object" s H y) (hv : ∀ (s : State) (H : Heap), k_S X s → va_P X.1 vwCl ws H → va_Any "java/lang/Object" s H v) : k_M X l yJx4a65c_add_72be8 wsJx4a65c_add_72be8 ({ frames := 5, cells := 1, slots := z + z / 2, locals := 147 }) [.ref a, .ref v, .ref b, .int (nI z)] (k_N X n ad L C fr ((a, .inr (3, [.int mo, .ref b, .int (nI z)])) :: (b, .inl (X.2.1 4, z, .inr (.inr (.inr (.inr (f)))))) :: ws)) (fun v9 H => ∃ q, v9 = none ∧ k_N X n ad L C fr ((q, .inl (X.2.1 4, z + z / 2, .inr (.inr (.inr (.inr (va_up (va_cpy f (fun _ => none) 0 0 z) z (some v))))))) :: (a, .inr (3, [.int mo, .ref q, .int (nI (z + 1))])) :: (b, .inl (X.2.1 4, z, .inr (.inr (.inr (.inr (f)))))) :: ws) H) 1 (z + z / 2) := by
  refine k_M.of (cc := cJx4a65c_add_72be8) (maxL := 4) (ret := none) (by decide) rfl (Nat.le_of_ble_eq_true rfl) ?_
  intro p e s m args below meth c ls hx hb hr hml hown hts hlocks hnm hK hW hl
  have hL : ∀ q ∈ ([] : List Loc), k_B X ≤ q.base := fun _ h => nomatch h
  have hl : lv_has ls 4 [(0, .ref a), (1, .ref v), (2, .ref b), (3, .int (nI z))] := hl
  have fJx4a65c : ∀ w ∈ u_ws RJx4a65c TJx4a65c 3, w.before args s = true := fun w h => hts w ((by decide +kernel : ∀ w ∈ u_ws RJx4a65c TJx4a65c 3, w ∈ wsJx4a65c_add_72be8) w h)
  refine lv_iload_n hx hb dJx4a65c_add_72be8_0 rfl (lv_at hl 3 rfl) ?_
  refine lv_aload_n hx hb dJx4a65c_add_72be8_1 rfl (lv_at hl 2 rfl) ?_
  refine va_alen hx hb hK.1 hW.2.1 1 4 rfl rfl (v := nI z) rfl dJx4a65c_add_72be8_2 ?_
  refine lv_icmp_ne (tgt := 11) hx hb dJx4a65c_add_72be8_3 (by decide) (fun c1 => ?_) (fun c1 => ?_)
  ·
    exact absurd rfl c1
  ·
    refine lv_aload_n hx hb dJx4a65c_add_72be8_6 rfl (lv_at hl 0 rfl) ?_
    refine k_callV (As := []) (rest := []) ⟨hx, hb, hml, hown, hts⟩ hK (c_Jx4a65c_grow_d5877_C X l a b mo z f h2 hz hel) (cwV 0 hts gJx4a65c_add_72be8_Jx4a65c_grow_d5877 rfl rfl rfl (by decide +kernel) ⟨Nat.le_of_ble_eq_true rfl, Nat.le_of_ble_eq_true rfl⟩) (va_recv (q0 := 0) (ci := 3) hK.1 hW.2.1 rfl rfl) hW rfl hl.1 rfl (Nat.le_of_ble_eq_true rfl) dJx4a65c_add_72be8_7 ⟨Nat.le_of_ble_eq_true rfl, Nat.le_of_eq (Nat.zero_add _)⟩ hL (fun v9 H locs hp hL => ?_)
    obtain ⟨q2, rfl, hW⟩ := hp
    refine lv_astore_n (lv' := [(2, .ref q2), (0, .ref a), (1, .ref v), (3, .int (nI z))]) hx hb dJx4a65c_add_72be8_10 rfl hl (by decide) rfl (fun ls hl => ?_)
    refine lv_aload_n hx hb dJx4a65c_add_72be8_11 rfl (lv_at hl 0 rfl) ?_
    refine lv_iload_n hx hb dJx4a65c_add_72be8_12 rfl (lv_at hl 3 rfl) ?_
    refine lv_aload_n hx hb dJx4a65c_add_72be8_13 rfl (lv_at hl 2 rfl) ?_
    refine k_nastq (k := z) hx hb hK hW hL 0 rfl (hv _ _ hK (k_N.tail (k_N.tail (k_N.tail hW))).2.1) (nI_clamp (by omega)) (vp_in_nI (by omega) (by omega)) (ws' := (q2, .inl (X.2.1 4, z + z / 2, .inr (.inr (.inr (.inr (va_up (va_cpy f (fun _ => none) 0 0 z) z (some v))))))) :: (a, .inr (3, [.int mo, .ref q2, .int (nI z)])) :: (b, .inl (X.2.1 4, z, .inr (.inr (.inr (.inr (f)))))) :: ws) rfl dJx4a65c_add_72be8_14 (fun H locs hW hL => ?_)
    refine lv_aload_n hx hb dJx4a65c_add_72be8_15 rfl (lv_at hl 1 rfl) ?_
    refine lv_iload_n hx hb dJx4a65c_add_72be8_16 rfl (lv_at hl 3 rfl) ?_
    refine lv_iconst (v := 1) hx hb dJx4a65c_add_72be8_17 (by decide) ?_
    refine lv_iadd hx hb dJx4a65c_add_72be8_18 ?_
    refine k_nput (K := RJx4a65c) (T := TJx4a65c) (N := 3) (v := .int ((nI z) + 1)) (ty := tyJx4a65c 2) hx hb fJx4a65c tyJx4a65c tyJx4a65c_ok nmJx4a65c hown hK hW hL 1 rfl rfl 2 (by decide) (hts (.fieldLink RJx4a65c 48 "java/util/ArrayList" "size" "I") (by decide +kernel)) (fun x h => h) rfl (tyJx4a65c_ok 2 (by decide)) rfl rfl (Nat.le_of_ble_eq_true rfl) (ws' := (q2, .inl (X.2.1 4, z + z / 2, .inr (.inr (.inr (.inr (va_up (va_cpy f (fun _ => none) 0 0 z) z (some v))))))) :: (a, .inr (3, [.int mo, .ref q2, .int ((nI z) + 1)])) :: (b, .inl (X.2.1 4, z, .inr (.inr (.inr (.inr (f)))))) :: ws) rfl dJx4a65c_add_72be8_19 (fun H locs hW hL => ?_)
    refine k_more (cells' := 1) (slots' := z + z / 2) (Nat.le_of_ble_eq_true rfl) (Nat.le_of_eq (Nat.zero_add _)) ?_
    exact k_vret hx hb hr hlocks (⟨_, rfl, by rw [← nI_1]; exact hW⟩) hL dJx4a65c_add_72be8_22
set_option maxHeartbeats 400000 in
set_option maxRecDepth 100000 in
theorem c_Jx4a65c_add_9ea2d_C (X : kX) (l : Launch) {n : Nat → Nat → Nat} {ad L : Nat → Nat → Nat → Nat} {C : Nat → Nat → Nat → Nat → Int32} {fr : Nat → Option Cell} {ws : va_W} (a b v : Nat) (mo : Int32) (z : Nat) (f : Nat → Option Nat) (h2 : 2 ≤ z) (hz : z ≤ 80000) (hel : ∀ (s : State) (H : Heap), k_S X s → k_W X n ad L C fr H → ∀ (i y : Nat), f i = some y → va_Any "java/lang/Object" s H y) (hv : ∀ (s : State) (H : Heap), k_S X s → va_P X.1 vwCl ws H → va_Any "java/lang/Object" s H v) : k_M X l yJx4a65c_add_9ea2d wsJx4a65c_add_9ea2d ({ frames := 6, cells := 1, slots := z + z / 2, locals := 170 }) [.ref a, .ref v] (k_N X n ad L C fr ((a, .inr (3, [.int mo, .ref b, .int (nI z)])) :: (b, .inl (X.2.1 4, z, .inr (.inr (.inr (.inr (f)))))) :: ws)) (fun v9 H => ∃ q, v9 = some (.int 1) ∧ k_N X n ad L C fr ((q, .inl (X.2.1 4, z + z / 2, .inr (.inr (.inr (.inr (va_up (va_cpy f (fun _ => none) 0 0 z) z (some v))))))) :: (a, .inr (3, [.int (mo + 1), .ref q, .int (nI (z + 1))])) :: (b, .inl (X.2.1 4, z, .inr (.inr (.inr (.inr (f)))))) :: ws) H) 1 (z + z / 2) := by
  refine k_M.of (cc := cJx4a65c_add_9ea2d) (maxL := 2) (ret := (some .boolean)) (by decide) rfl (Nat.le_of_ble_eq_true rfl) ?_
  intro p e s m args below meth c ls hx hb hr hml hown hts hlocks hnm hK hW hl
  have hL : ∀ q ∈ ([] : List Loc), k_B X ≤ q.base := fun _ h => nomatch h
  have hl : lv_has ls 2 [(0, .ref a), (1, .ref v)] := hl
  have fJx4a65c : ∀ w ∈ u_ws RJx4a65c TJx4a65c 3, w.before args s = true := fun w h => hts w ((by decide +kernel : ∀ w ∈ u_ws RJx4a65c TJx4a65c 3, w ∈ wsJx4a65c_add_9ea2d) w h)
  refine lv_aload_n hx hb dJx4a65c_add_9ea2d_0 rfl (lv_at hl 0 rfl) ?_
  refine lv_dup hx hb dJx4a65c_add_9ea2d_1 rfl ?_
  refine va_get (C := RJx4a65c) (T := TJx4a65c) (N := 3) (v := .int mo) hx hb fJx4a65c (fun _ h => h) hown hK.1 hW.2.1 0 rfl rfl 0 (by decide) (hts (.fieldLink RJx4a65c 63 "java/util/ArrayList" "modCount" "I") (by decide +kernel)) (u_same (hts (.sameField "java/util/ArrayList" "java/util/AbstractList" "modCount" "I") (by decide +kernel))) rfl dJx4a65c_add_9ea2d_2 ?_
  refine lv_iconst (v := 1) hx hb dJx4a65c_add_9ea2d_5 (by decide) ?_
  refine lv_iadd hx hb dJx4a65c_add_9ea2d_6 ?_
  refine k_nput (K := RJx4a65c) (T := TJx4a65c) (N := 3) (v := .int (mo + 1)) (ty := tyJx4a65c 0) hx hb fJx4a65c tyJx4a65c tyJx4a65c_ok nmJx4a65c hown hK hW hL 0 rfl rfl 0 (by decide) (hts (.fieldLink RJx4a65c 63 "java/util/ArrayList" "modCount" "I") (by decide +kernel)) (u_same (hts (.sameField "java/util/ArrayList" "java/util/AbstractList" "modCount" "I") (by decide +kernel))) rfl (tyJx4a65c_ok 0 (by decide)) rfl rfl (Nat.le_of_ble_eq_true rfl) (ws' := (a, .inr (3, [.int (mo + 1), .ref b, .int (nI z)])) :: (b, .inl (X.2.1 4, z, .inr (.inr (.inr (.inr (f)))))) :: ws) rfl dJx4a65c_add_9ea2d_7 (fun H locs hW hL => ?_)
  refine lv_aload_n hx hb dJx4a65c_add_9ea2d_10 rfl (lv_at hl 0 rfl) ?_
  refine lv_aload_n hx hb dJx4a65c_add_9ea2d_11 rfl (lv_at hl 1 rfl) ?_
  refine lv_aload_n hx hb dJx4a65c_add_9ea2d_12 rfl (lv_at hl 0 rfl) ?_
  refine va_get (C := RJx4a65c) (T := TJx4a65c) (N := 3) (v := .ref b) hx hb fJx4a65c (fun _ h => h) hown hK.1 hW.2.1 0 rfl rfl 1 (by decide) (hts (.fieldLink RJx4a65c 9 "java/util/ArrayList" "elementData" "[Ljava/lang/Object;") (by decide +kernel)) (fun x h => h) rfl dJx4a65c_add_9ea2d_13 ?_
  refine lv_aload_n hx hb dJx4a65c_add_9ea2d_16 rfl (lv_at hl 0 rfl) ?_
  refine va_get (C := RJx4a65c) (T := TJx4a65c) (N := 3) (v := .int (nI z)) hx hb fJx4a65c (fun _ h => h) hown hK.1 hW.2.1 0 rfl rfl 2 (by decide) (hts (.fieldLink RJx4a65c 48 "java/util/ArrayList" "size" "I") (by decide +kernel)) (fun x h => h) rfl dJx4a65c_add_9ea2d_17 ?_
  refine k_callV (As := [.ref v, .ref b, .int (nI z)]) (rest := []) ⟨hx, hb, hml, hown, hts⟩ hK (c_Jx4a65c_add_72be8_C X l a b v (mo + 1) z f h2 hz hel hv) (cwV 3 hts gJx4a65c_add_9ea2d_Jx4a65c_add_72be8 rfl rfl rfl (by decide +kernel) ⟨Nat.le_of_ble_eq_true rfl, Nat.le_of_ble_eq_true rfl⟩) (va_recv (q0 := 0) (ci := 3) hK.1 hW.2.1 rfl rfl) hW rfl hl.1 rfl (Nat.le_of_ble_eq_true rfl) dJx4a65c_add_9ea2d_20 ⟨Nat.le_of_ble_eq_true rfl, Nat.le_of_eq (Nat.zero_add _)⟩ hL (fun v9 H locs hp hL => ?_)
  obtain ⟨q1, rfl, hW⟩ := hp
  refine lv_iconst (v := 1) hx hb dJx4a65c_add_9ea2d_23 (by decide) ?_
  refine k_more (cells' := 1) (slots' := z + z / 2) (Nat.le_of_ble_eq_true rfl) (Nat.le_of_eq (Nat.zero_add _)) ?_
  exact k_zret hx hb hr (by decide) hlocks (⟨_, rfl, hW⟩) hL dJx4a65c_add_9ea2d_24
