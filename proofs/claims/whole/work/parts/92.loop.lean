/-! THE LAW'S LOOP -/
theorem lw_and (a b : Nat) : nI a &&& nI b = nI (a &&& b) := by
  apply Int32.toBitVec_inj.1
  show BitVec.ofNat 32 a &&& BitVec.ofNat 32 b = BitVec.ofNat 32 (a &&& b)
  apply BitVec.eq_of_getLsbD_eq
  intro i hi
  simp [hi]
theorem lw_mask (x : Int32) : ∃ j, j < 32 ∧ x &&& 31 = nI j := by
  have e : x = nI x.toBitVec.toNat := by
    apply Int32.toBitVec_inj.1
    show x.toBitVec = BitVec.ofNat 32 x.toBitVec.toNat
    simp
  refine ⟨x.toBitVec.toNat % 32, Nat.mod_lt _ (by omega), ?_⟩
  have h : nI x.toBitVec.toNat &&& nI 31 = nI (x.toBitVec.toNat % 32) := by
    rw [lw_and, show (31 : Nat) = 2 ^ 5 - 1 from rfl, Nat.and_two_pow_sub_one_eq_mod]
  rw [← e] at h
  exact h
theorem lw_rm : 60000 ≤ room_1.cells ∧ 600000 ≤ room_1.slots := ⟨Nat.le_of_ble_eq_true rfl, Nat.le_of_ble_eq_true rfl⟩
/-- the loop's test -/
theorem lw_test {Ln k : Nat} (hL : Ln ≤ 2048) (hk : k ≤ 512) : (nI Ln - 4 < nI (4 * k)) ↔ Ln < 4 * k + 4 := by
  have e : (nI Ln - 4).toInt = (Ln : Int) - 4 := pk_sub_toInt (b := 4) (by omega) (by omega)
  have e2 : (nI (4 * k)).toInt = ((4 * k : Nat) : Int) := nI_toInt (by omega)
  rw [Int32.lt_iff_toInt_lt, e, e2]
  omega
set_option maxHeartbeats 400000 in
set_option maxRecDepth 100000 in
theorem lw_sw (p : Program) (l : Launch) (e : Env) (s : State) (m : MethodId) (below : List Frame) (meth : Method) (c : Code) (H : Heap) (locs : List Loc) (cells slots : Nat) (Q : State → Prop) (ls : Array Slot) (b Ln : Nat) (xs : Nat → Int32) (X : kX) (n : Nat → Nat → Nat) (ad L : Nat → Nat → Nat → Nat) (C : Nat → Nat → Nat → Nat → Int32) (nl nt ng ne k o o2 : Nat) (f : Nat → Int64) (fd : Nat → UInt64)
    (Z : lw_X p l s m meth c b Ln xs X) (hk : 4 * k + 3 < Ln) (hI : lw_I n C nl nt ng ne k) (hV : q_V (C 0) (C 2) nl nt ng) (hW : k_N X n ad L C (fun _ => none) (lw_ws X o o2 f fd) H) (hL : ∀ q ∈ locs, k_B X ≤ q.base) (hl : lv_has ls 9 (lw_lv b (ad 5 16 0) (ad 2 14 0) o o2 k)) (hcs : cells + 100 ≤ room_1.cells ∧ slots + 1000 ≤ room_1.slots)
    (kk : ∀ (H : Heap) (locs : List Loc) (ls : Array Slot), lw_J X (k + 1) (ad 5 16 0) (ad 2 14 0) o o2 H → (∀ q ∈ locs, k_B X ≤ q.base) → lv_has ls 9 (lw_lv b (ad 5 16 0) (ad 2 14 0) o o2 k) → W p l e room_1 s m #[Value.ref b] below meth c H locs (cells + 100) (slots + 1000) Q (F0 m 1811 ls [])) (x : Int32) :
    W p l e room_1 s m #[Value.ref b] below meth c H locs cells slots Q (F0 m 44 ls [.int (x &&& 31)]) := by
  have Z0 := Z
  obtain ⟨hx, hb, -⟩ := Z0
  obtain ⟨j, hj, ej⟩ := lw_mask x
  rw [ej]
  have kd : W p l e room_1 s m #[Value.ref b] below meth c H locs cells slots Q (F0 m 1811 ls []) := k_more (cells' := cells + 100) (slots' := slots + 1000) (by omega) (by omega) (kk _ _ _ ⟨n, ad, L, C, nl, nt, ng, ne, f, fd, hI.next, hV, rfl, rfl, hW⟩ hL hl)
  clear ej x
  match j, hj with
  | 0, _ => exact lv_tableIn (off := 136) (tgt := 180) hx hb dL_law_44 (by decide +kernel) (by decide +kernel) (by decide +kernel) (by decide) (lw_c0 p l e s m below meth c H locs cells slots Q ls b Ln xs X n ad L C nl nt ng ne k o o2 f fd Z hk hI hV hW hL hl hcs kk)
  | 1, _ => exact lv_tableIn (off := 232) (tgt := 276) hx hb dL_law_44 (by decide +kernel) (by decide +kernel) (by decide +kernel) (by decide) (lw_c1 p l e s m below meth c H locs cells slots Q ls b Ln xs X n ad L C nl nt ng ne k o o2 f fd Z hk hI hV hW hL hl hcs kk)
  | 2, _ => exact lv_tableIn (off := 312) (tgt := 356) hx hb dL_law_44 (by decide +kernel) (by decide +kernel) (by decide +kernel) (by decide) (lw_c2 p l e s m below meth c H locs cells slots Q ls b Ln xs X n ad L C nl nt ng ne k o o2 f fd Z hk hI hV hW hL hl hcs kk)
  | 3, _ => exact lv_tableIn (off := 380) (tgt := 424) hx hb dL_law_44 (by decide +kernel) (by decide +kernel) (by decide +kernel) (by decide) (lw_c3 p l e s m below meth c H locs cells slots Q ls b Ln xs X n ad L C nl nt ng ne k o o2 f fd Z hk hI hV hW hL hl hcs kk)
  | 4, _ => exact lv_tableIn (off := 436) (tgt := 480) hx hb dL_law_44 (by decide +kernel) (by decide +kernel) (by decide +kernel) (by decide) (lw_c4 p l e s m below meth c H locs cells slots Q ls b Ln xs X n ad L C nl nt ng ne k o o2 f fd Z hk hI hV hW hL hl hcs kk)
  | 5, _ => exact lv_tableIn (off := 492) (tgt := 536) hx hb dL_law_44 (by decide +kernel) (by decide +kernel) (by decide +kernel) (by decide) (lw_c5 p l e s m below meth c H locs cells slots Q ls b Ln xs X n ad L C nl nt ng ne k o o2 f fd Z hk hI hV hW hL hl hcs kk)
  | 6, _ => exact lv_tableIn (off := 572) (tgt := 616) hx hb dL_law_44 (by decide +kernel) (by decide +kernel) (by decide +kernel) (by decide) (lw_c6 p l e s m below meth c H locs cells slots Q ls b Ln xs X n ad L C nl nt ng ne k o o2 f fd Z hk hI hV hW hL hl hcs kk)
  | 7, _ => exact lv_tableIn (off := 640) (tgt := 684) hx hb dL_law_44 (by decide +kernel) (by decide +kernel) (by decide +kernel) (by decide) (lw_c7 p l e s m below meth c H locs cells slots Q ls b Ln xs X n ad L C nl nt ng ne k o o2 f fd Z hk hI hV hW hL hl hcs kk)
  | 8, _ => exact lv_tableIn (off := 696) (tgt := 740) hx hb dL_law_44 (by decide +kernel) (by decide +kernel) (by decide +kernel) (by decide) (lw_c8 p l e s m below meth c H locs cells slots Q ls b Ln xs X n ad L C nl nt ng ne k o o2 f fd Z hk hI hV hW hL hl hcs kk)
  | 9, _ => exact lv_tableIn (off := 709) (tgt := 753) hx hb dL_law_44 (by decide +kernel) (by decide +kernel) (by decide +kernel) (by decide) (lw_c9 p l e s m below meth c H locs cells slots Q ls b Ln xs X n ad L C nl nt ng ne k o o2 f fd Z hk hI hV hW hL hl hcs kk)
  | 10, _ => exact lv_tableIn (off := 765) (tgt := 809) hx hb dL_law_44 (by decide +kernel) (by decide +kernel) (by decide +kernel) (by decide) (lw_c10 p l e s m below meth c H locs cells slots Q ls b Ln xs X n ad L C nl nt ng ne k o o2 f fd Z hk hI hV hW hL hl hcs kk)
  | 11, _ => exact lv_tableIn (off := 821) (tgt := 865) hx hb dL_law_44 (by decide +kernel) (by decide +kernel) (by decide +kernel) (by decide) (lw_c11 p l e s m below meth c H locs cells slots Q ls b Ln xs X n ad L C nl nt ng ne k o o2 f fd Z hk hI hV hW hL hl hcs kk)
  | 12, _ => exact lv_tableIn (off := 877) (tgt := 921) hx hb dL_law_44 (by decide +kernel) (by decide +kernel) (by decide +kernel) (by decide) (lw_c12 p l e s m below meth c H locs cells slots Q ls b Ln xs X n ad L C nl nt ng ne k o o2 f fd Z hk hI hV hW hL hl hcs kk)
  | 13, _ => exact lv_tableIn (off := 945) (tgt := 989) hx hb dL_law_44 (by decide +kernel) (by decide +kernel) (by decide +kernel) (by decide) (lw_c13 p l e s m below meth c H locs cells slots Q ls b Ln xs X n ad L C nl nt ng ne k o o2 f fd Z hk hI hV hW hL hl hcs kk)
  | 14, _ => exact lv_tableIn (off := 1001) (tgt := 1045) hx hb dL_law_44 (by decide +kernel) (by decide +kernel) (by decide +kernel) (by decide) (lw_c14 p l e s m below meth c H locs cells slots Q ls b Ln xs X n ad L C nl nt ng ne k o o2 f fd Z hk hI hV hW hL hl hcs kk)
  | 15, _ => exact lv_tableIn (off := 1057) (tgt := 1101) hx hb dL_law_44 (by decide +kernel) (by decide +kernel) (by decide +kernel) (by decide) (lw_c15 p l e s m below meth c H locs cells slots Q ls b Ln xs X n ad L C nl nt ng ne k o o2 f fd Z hk hI hV hW hL hl hcs kk)
  | 16, _ => exact lv_tableIn (off := 1113) (tgt := 1157) hx hb dL_law_44 (by decide +kernel) (by decide +kernel) (by decide +kernel) (by decide) (lw_c16 p l e s m below meth c H locs cells slots Q ls b Ln xs X n ad L C nl nt ng ne k o o2 f fd Z hk hI hV hW hL hl hcs kk)
  | 17, _ => exact lv_tableIn (off := 1169) (tgt := 1213) hx hb dL_law_44 (by decide +kernel) (by decide +kernel) (by decide +kernel) (by decide) (lw_c17 p l e s m below meth c H locs cells slots Q ls b Ln xs X n ad L C nl nt ng ne k o o2 f fd Z hk hI hV hW hL hl hcs kk)
  | 18, _ => exact lv_tableIn (off := 1182) (tgt := 1226) hx hb dL_law_44 (by decide +kernel) (by decide +kernel) (by decide +kernel) (by decide) (lw_c18 p l e s m below meth c H locs cells slots Q ls b Ln xs X n ad L C nl nt ng ne k o o2 f fd Z hk hI hV hW hL hl hcs kk)
  | 19, _ => exact lv_tableIn (off := 1238) (tgt := 1282) hx hb dL_law_44 (by decide +kernel) (by decide +kernel) (by decide +kernel) (by decide) (lw_c19 p l e s m below meth c H locs cells slots Q ls b Ln xs X n ad L C nl nt ng ne k o o2 f fd Z hk hI hV hW hL hl hcs kk)
  | 20, _ => exact lv_tableIn (off := 1294) (tgt := 1338) hx hb dL_law_44 (by decide +kernel) (by decide +kernel) (by decide +kernel) (by decide) (lw_c20 p l e s m below meth c H locs cells slots Q ls b Ln xs X n ad L C nl nt ng ne k o o2 f fd Z hk hI hV hW hL hl hcs kk)
  | 21, _ => exact lv_tableIn (off := 1350) (tgt := 1394) hx hb dL_law_44 (by decide +kernel) (by decide +kernel) (by decide +kernel) (by decide) (lw_c21 p l e s m below meth c H locs cells slots Q ls b Ln xs X n ad L C nl nt ng ne k o o2 f fd Z hk hI hV hW hL hl hcs kk)
  | 22, _ => exact lv_tableIn (off := 1418) (tgt := 1462) hx hb dL_law_44 (by decide +kernel) (by decide +kernel) (by decide +kernel) (by decide) (lw_c22 p l e s m below meth c H locs cells slots Q ls b Ln xs X n ad L C nl nt ng ne k o o2 f fd Z hk hI hV hW hL hl hcs kk)
  | 23, _ => exact lv_tableIn (off := 1486) (tgt := 1530) hx hb dL_law_44 (by decide +kernel) (by decide +kernel) (by decide +kernel) (by decide) (lw_c23 p l e s m below meth c H locs cells slots Q ls b Ln xs X n ad L C nl nt ng ne k o o2 f fd Z hk hI hV hW hL hl hcs kk)
  | 24, _ => exact lv_tableIn (off := 1541) (tgt := 1585) hx hb dL_law_44 (by decide +kernel) (by decide +kernel) (by decide +kernel) (by decide) (lw_c24 p l e s m below meth c H locs cells slots Q ls b Ln xs X n ad L C nl nt ng ne k o o2 f fd Z hk hI hV hW hL hl hcs kk)
  | 25, _ => exact lv_tableIn (off := 1606) (tgt := 1650) hx hb dL_law_44 (by decide +kernel) (by decide +kernel) (by decide +kernel) (by decide) (lw_c25 p l e s m below meth c H locs cells slots Q ls b Ln xs X n ad L C nl nt ng ne k o o2 f fd Z hk hI hV hW hL hl hcs kk)
  | 26, _ => exact lv_tableIn (off := 1672) (tgt := 1716) hx hb dL_law_44 (by decide +kernel) (by decide +kernel) (by decide +kernel) (by decide) (lw_c26 p l e s m below meth c H locs cells slots Q ls b Ln xs X n ad L C nl nt ng ne k o o2 f fd Z hk hI hV hW hL hl hcs kk)
  | 27, _ => exact lv_tableIn (off := 1685) (tgt := 1729) hx hb dL_law_44 (by decide +kernel) (by decide +kernel) (by decide +kernel) (by decide) (lw_c27 p l e s m below meth c H locs cells slots Q ls b Ln xs X n ad L C nl nt ng ne k o o2 f fd Z hk hI hV hW hL hl hcs kk)
  | 28, _ => exact lv_tableIn (off := 1698) (tgt := 1742) hx hb dL_law_44 (by decide +kernel) (by decide +kernel) (by decide +kernel) (by decide) (lw_c28 p l e s m below meth c H locs cells slots Q ls b Ln xs X n ad L C nl nt ng ne k o o2 f fd Z hk hI hV hW hL hl hcs kk)
  | 29, _ => exact lv_tableIn (off := 1754) (tgt := 1798) hx hb dL_law_44 (by decide +kernel) (by decide +kernel) (by decide +kernel) (by decide) (lw_c29 p l e s m below meth c H locs cells slots Q ls b Ln xs X n ad L C nl nt ng ne k o o2 f fd Z hk hI hV hW hL hl hcs kk)
  | 30, _ => exact lv_tableOut (tgt := 1811) hx hb dL_law_44 (by decide +kernel) (by decide) kd
  | 31, _ => exact lv_tableOut (tgt := 1811) hx hb dL_law_44 (by decide +kernel) (by decide) kd
  | j + 32, hj => exact absurd hj (by omega)
set_option maxHeartbeats 400000 in
set_option maxRecDepth 100000 in
theorem lw_loop (p : Program) (l : Launch) (e : Env) (s : State) (m : MethodId) (below : List Frame) (meth : Method) (c : Code) (H : Heap) (locs : List Loc) (Q : State → Prop) (ls : Array Slot) (b Ln : Nat) (xs : Nat → Int32) (X : kX) (x0 m0 o o2 : Nat)
    (Z : lw_X p l s m meth c b Ln xs X) (hJ : lw_J X 0 x0 m0 o o2 H) (hL : ∀ q ∈ locs, k_B X ≤ q.base) (hl : lv_has ls 9 (lw_lv b x0 m0 o o2 0))
    (kk : ∀ (H : Heap) (locs : List Loc) (ls : Array Slot), (∀ q ∈ locs, k_B X ≤ q.base) → W p l e room_1 s m #[Value.ref b] below meth c H locs 60000 600000 Q (F0 m 1817 ls [])) :
    W p l e room_1 s m #[Value.ref b] below meth c H locs 100 1000 Q (F0 m 28 ls []) := by
  have Z0 := Z
  obtain ⟨hx, hb, hml, hown, hts, hK, hX0, hXs, hbl, hL2, hl9, hfp⟩ := Z0
  refine k_forC 512 (fun k H locs ls => lw_J X k x0 m0 o o2 H ∧ (∀ q ∈ locs, k_B X ≤ q.base) ∧ lv_has ls 9 (lw_lv b x0 m0 o o2 k)) (fun k => 100 + 100 * k) (fun k => 1000 + 1000 * k) 0 ⟨hJ, hL, hl⟩ (Nat.zero_le _) (fun k hk ih H locs ls hI => ?_)
  obtain ⟨⟨n, ad, L, C, nl, nt, ng, ne, f, fd, hI, hV, rfl, rfl, hW⟩, hL, hl⟩ := hI
  have rm := lw_rm
  refine lv_iload hx hb dL_law_28 (lv_at hl 5 rfl) ?_
  refine lv_aload_n hx hb dL_law_30 rfl (lv_at hl 0 rfl) ?_
  refine va_slen (A := fun q => s.heap.size ≤ q) hx hb hXs hbl (fun q => absurd hbl (Nat.not_lt.mpr q)) (lw_vS hX0 hW.1 hL) dL_law_31 ?_
  refine lv_iconst (v := 4) hx hb dL_law_32 (by decide) ?_
  refine lv_isub hx hb dL_law_33 ?_
  refine lv_icmp_gt (tgt := 1817) hx hb dL_law_34 (by decide) (fun _ => ?_) (fun h => ?_)
  · exact k_more (cells' := 60000) (slots' := 600000) (by omega) (by omega) (kk _ _ _ hL)
  · have hlt : 4 * k + 3 < Ln := by
      have := mt (lw_test (Ln := Ln) hL2 hk).mpr h
      omega
    refine lv_aload_n hx hb dL_law_37 rfl (lv_at hl 0 rfl) ?_
    refine lv_iload hx hb dL_law_38 (lv_at hl 5 rfl) ?_
    refine va_sld (A := fun q => s.heap.size ≤ q) hx hb hXs hbl (fun q => absurd hbl (Nat.not_lt.mpr q)) (lw_vS hX0 hW.1 hL) (vp_in_nI (by omega) (by omega)) dL_law_40 ?_
    refine lv_bipush (v := 31) hx hb dL_law_41 (by decide) ?_
    refine lv_iand hx hb dL_law_43 ?_
    refine lw_sw p l e s m below meth c H locs _ _ Q ls b Ln xs X n ad L C nl nt ng ne k o o2 f fd Z hlt hI hV hW hL hl ⟨by omega, by omega⟩ (fun H locs ls hJ hL hl => ?_) _
    refine lv_iinc (v := nI (4 * (k + 1))) (k := 5) (lv' := [(5, .int (nI (4 * (k + 1)))), (0, .ref b), (1, .ref (ad 5 16 0)), (2, .ref (ad 2 14 0)), (3, .ref o), (4, .ref o2)]) hx hb dL_law_1811 hl rfl (by rw [show Int32.ofInt 4 = nI 4 from by decide, nI_add]; rfl) (by decide) rfl (fun ls hl => ?_)
    refine lv_goto (tgt := 28) hx hb dL_law_1814 (by decide) ?_
    refine k_more (cells' := 100 + 100 * (k + 1)) (slots' := 1000 + 1000 * (k + 1)) (by omega) (by omega) ?_
    exact ih _ _ _ (by omega) ⟨hJ, hL, lv_sub hl [1, 2, 3, 4, 5, 0] rfl⟩
