set_option maxHeartbeats 400000 in
set_option maxRecDepth 100000 in
theorem lw_c0 : lw_case 180 := by
  intro p l e s m below meth c H locs cells slots Q ls b Ln xs X n ad L C nl nt ng ne k o o2 f fd Z hk hI hV hW hL hl hcs kk
  obtain ⟨hx, hb, hml, hown, hts, hK, hX0, hXs, hbl, hL2, hl9, hfp⟩ := Z
  have hI0 := hI
  obtain ⟨i1, i2, i3, i4, i5, i6, i7, i8, i9, i10, i11⟩ := hI

  have hbr : (if xs (4 * k + 1) = 0 then (0 : Int32) else 1) = 0 ∨ (if xs (4 * k + 1) = 0 then (0 : Int32) else 1) = 1 := by split <;> first | exact Or.inl rfl | exact Or.inr rfl
  refine lv_aload_n hx hb dL_law_180 rfl (lv_at hl 1 rfl) ?_
  refine lw_ia (j := 1) hx hb hX0 hXs hbl hW.1 hL (by omega) hL2 (lv_at hl 0 rfl) (lv_at hl 5 rfl) (ci := 1) rfl dL_law_181 dL_law_182 dL_law_184 dL_law_185 dL_law_186 ?_
  refine lw_br hx hb dL_law_187 dL_law_190 dL_law_191 dL_law_194 ?_
  refine lw_ia (j := 2) hx hb hX0 hXs hbl hW.1 hL (by omega) hL2 (lv_at hl 0 rfl) (lv_at hl 5 rfl) (ci := 2) rfl dL_law_195 dL_law_196 dL_law_198 dL_law_199 dL_law_200 ?_
  refine lw_ia (j := 3) hx hb hX0 hXs hbl hW.1 hL (by omega) hL2 (lv_at hl 0 rfl) (lv_at hl 5 rfl) (ci := 3) rfl dL_law_201 dL_law_202 dL_law_204 dL_law_205 dL_law_206 ?_
  have hbr2 := hbr
  refine lv_aload_n hx hb dL_law_207 rfl (lv_at hl 3 rfl) ?_
  have hch := q_cAddLorry hV hbr (xs (4 * k + 2)) (xs (4 * k + 3))
  replace hW : k_N X n ad L (k_g C 0 (C 0)) (fun _ => none) (lw_ws X o o2 f fd) H := by rw [k_g_self]; exact hW
  refine kx_callSX (As := [.ref (ad 5 16 0), .int (if xs (4 * k + 1) = 0 then (0 : Int32) else 1), .int (xs (4 * k + 2)), .int (xs (4 * k + 3)), .ref o]) (rest := []) ⟨hx, hb, hml, hown, hts⟩ hK (c_L_addLorry X l i1 (C 0) i2 i4 i5 (by omega) (if xs (4 * k + 1) = 0 then (0 : Int32) else 1) (xs (4 * k + 2)) (xs (4 * k + 3)) hl9) (vx_cwSW 5 hts gL_law_L_addLorry rfl rfl rfl (by decide +kernel) ⟨Nat.le_of_ble_eq_true rfl, Nat.le_of_ble_eq_true rfl⟩) hW rfl hl.1 rfl (Nat.le_of_ble_eq_true rfl) dL_law_208 ⟨by have := hcs.1; omega, by have := hcs.2; omega⟩ hL (fun E ce q H locs hp => hp.elim) (fun v H locs hp hL => ?_)
  obtain ⟨n1, ad1, L1, C1, nl1, nt1, ng1, ne1, f1, rfl, hI1, u1, u2, u3, hW, u4, u5⟩ := lw_hap hI0 (fun h => (hch.2.1 h).2.2) hp
  obtain ⟨z1, z2, z3⟩ := lw_chg hch u4 u5
  have j3 : k_mod n1 2 := hI1.2.2.1
  replace hl : lv_has ls 9 (lw_lv b (ad1 5 16 0) (ad1 2 14 0) o o2 k) := by rw [u2, u3]; exact hl
  replace kk : ∀ (H : Heap) (locs : List Loc) (ls : Array Slot), lw_J X (k + 1) (ad1 5 16 0) (ad1 2 14 0) o o2 H → (∀ q ∈ locs, k_B X ≤ q.base) → lv_has ls 9 (lw_lv b (ad1 5 16 0) (ad1 2 14 0) o o2 k) → W p l e room_1 s m #[Value.ref b] below meth c H locs (cells + 100) (slots + 1000) Q (F0 m 1811 ls []) := by rw [u2, u3]; exact kk
  refine lv_istore (lv' := [(6, .int (s_x_addLorry (C 0) nl nt ng (if xs (4 * k + 1) = 0 then (0 : Int32) else 1) (xs (4 * k + 2)) (xs (4 * k + 3)))), (0, .ref b), (1, .ref (ad1 5 16 0)), (2, .ref (ad1 2 14 0)), (3, .ref o), (4, .ref o2), (5, .int (nI (4 * k)))]) hx hb dL_law_211 hl (by decide) rfl (fun ls hl => ?_)
  refine lv_aload_n hx hb dL_law_213 rfl (lv_at hl 3 rfl) ?_
  refine lw_ia (j := 1) hx hb hX0 hXs hbl hW.1 hL (by omega) hL2 (lv_at hl 1 rfl) (lv_at hl 6 rfl) (ci := 1) rfl dL_law_214 dL_law_215 dL_law_217 dL_law_218 dL_law_219 ?_
  refine lw_br hx hb dL_law_220 dL_law_223 dL_law_224 dL_law_227 ?_
  refine lw_ia (j := 2) hx hb hX0 hXs hbl hW.1 hL (by omega) hL2 (lv_at hl 1 rfl) (lv_at hl 6 rfl) (ci := 2) rfl dL_law_228 dL_law_229 dL_law_231 dL_law_232 dL_law_233 ?_
  refine lw_ia (j := 3) hx hb hX0 hXs hbl hW.1 hL (by omega) hL2 (lv_at hl 1 rfl) (lv_at hl 6 rfl) (ci := 3) rfl dL_law_234 dL_law_235 dL_law_237 dL_law_238 dL_law_239 ?_
  obtain ⟨fr1, hF, hback⟩ := hW.freeze
  replace hF := k_self hF 2
  rw [u1] at hF
  refine k_callV (As := [.int (if xs (4 * k + 1) = 0 then (0 : Int32) else 1), .int (xs (4 * k + 2)), .int (xs (4 * k + 3))]) (rest := []) ⟨hx, hb, hml, hown, hts⟩ hK (c_X7_addLorry X l j3 (C 2) (if xs (4 * k + 1) = 0 then (0 : Int32) else 1) (xs (4 * k + 2)) (xs (4 * k + 3)) hV.wf (by rcases hbr with h | h <;> (rw [h]; rfl))) (cwV 3 hts gL_law_X7_addLorry rfl rfl rfl (by decide +kernel) ⟨Nat.le_of_ble_eq_true rfl, Nat.le_of_ble_eq_true rfl⟩) (k_recv hK hF 14 0 j3.o (fun _ => rfl) rfl) hF rfl hl.1 rfl (Nat.le_of_ble_eq_true rfl) dL_law_240 ⟨by have := hcs.1; omega, by have := hcs.2; omega⟩ hL (fun v H locs hp hL => ?_)
  obtain ⟨rfl, hW⟩ := hp
  replace hW := hback _ _ _ _ _ hW
  refine lv_istore (lv' := [(7, .int (s_X7_addLorry (C 2) nl nt ng (if xs (4 * k + 1) = 0 then (0 : Int32) else 1) (xs (4 * k + 2)) (xs (4 * k + 3))).2), (6, .int (s_x_addLorry (C 0) nl nt ng (if xs (4 * k + 1) = 0 then (0 : Int32) else 1) (xs (4 * k + 2)) (xs (4 * k + 3)))), (0, .ref b), (1, .ref (ad1 5 16 0)), (2, .ref (ad1 2 14 0)), (3, .ref o), (4, .ref o2), (5, .int (nI (4 * k)))]) hx hb dL_law_243 hl (by decide) rfl (fun ls hl => ?_)
  refine lw_thr hx hb hml hown hts hK j3 hW hL z1 hl 4 1 rfl rfl ⟨by have := hcs.1; omega, by have := hcs.2; omega⟩ dL_law_245 dL_law_246 dL_law_249 dL_law_251 (fun H locs hW hL => ?_)
  refine k_more (cells' := cells + 100) (slots' := slots + 1000) (by omega) (by omega) ?_
  exact lw_cmp hx hb hK hW z3 hl 5 1 0 rfl rfl rfl (by decide) dL_law_256 dL_law_258 dL_law_261 dL_law_262 dL_law_263 dL_law_264 dL_law_266 dL_law_267 dL_law_268 dL_law_273 (kk _ _ _ ⟨n1, ad1, L1, k_g C1 2 (s_X7_addLorry (C 2) nl nt ng (if xs (4 * k + 1) = 0 then (0 : Int32) else 1) (xs (4 * k + 2)) (xs (4 * k + 3))).1, nl1, nt1, ng1, ne1, f1, fd, hI1.ref _, lw_V z2, rfl, rfl, hW⟩ hL (lv_sub hl [2, 3, 4, 5, 6, 7] rfl))
set_option maxHeartbeats 400000 in
set_option maxRecDepth 100000 in
theorem lw_c1 : lw_case 276 := by
  intro p l e s m below meth c H locs cells slots Q ls b Ln xs X n ad L C nl nt ng ne k o o2 f fd Z hk hI hV hW hL hl hcs kk
  obtain ⟨hx, hb, hml, hown, hts, hK, hX0, hXs, hbl, hL2, hl9, hfp⟩ := Z
  have hI0 := hI
  obtain ⟨i1, i2, i3, i4, i5, i6, i7, i8, i9, i10, i11⟩ := hI

  refine lv_aload_n hx hb dL_law_276 rfl (lv_at hl 1 rfl) ?_
  refine lw_ia (j := 1) hx hb hX0 hXs hbl hW.1 hL (by omega) hL2 (lv_at hl 0 rfl) (lv_at hl 5 rfl) (ci := 1) rfl dL_law_277 dL_law_278 dL_law_280 dL_law_281 dL_law_282 ?_
  refine lw_ia (j := 2) hx hb hX0 hXs hbl hW.1 hL (by omega) hL2 (lv_at hl 0 rfl) (lv_at hl 5 rfl) (ci := 2) rfl dL_law_283 dL_law_284 dL_law_286 dL_law_287 dL_law_288 ?_
  refine lw_ia (j := 3) hx hb hX0 hXs hbl hW.1 hL (by omega) hL2 (lv_at hl 0 rfl) (lv_at hl 5 rfl) (ci := 3) rfl dL_law_289 dL_law_290 dL_law_292 dL_law_293 dL_law_294 ?_
  refine lv_aload_n hx hb dL_law_295 rfl (lv_at hl 3 rfl) ?_
  have hch := q_cAddTransfer hV (xs (4 * k + 1)) (xs (4 * k + 2)) (xs (4 * k + 3))
  replace hW : k_N X n ad L (k_g C 0 (C 0)) (fun _ => none) (lw_ws X o o2 f fd) H := by rw [k_g_self]; exact hW
  refine kx_callSX (As := [.ref (ad 5 16 0), .int (xs (4 * k + 1)), .int (xs (4 * k + 2)), .int (xs (4 * k + 3)), .ref o]) (rest := []) ⟨hx, hb, hml, hown, hts⟩ hK (c_L_addTransfer X l i1 (C 0) i2 i4 i5 (by omega) (xs (4 * k + 1)) (xs (4 * k + 2)) (xs (4 * k + 3)) hl9) (vx_cwSW 5 hts gL_law_L_addTransfer rfl rfl rfl (by decide +kernel) ⟨Nat.le_of_ble_eq_true rfl, Nat.le_of_ble_eq_true rfl⟩) hW rfl hl.1 rfl (Nat.le_of_ble_eq_true rfl) dL_law_296 ⟨by have := hcs.1; omega, by have := hcs.2; omega⟩ hL (fun E ce q H locs hp => hp.elim) (fun v H locs hp hL => ?_)
  obtain ⟨n1, ad1, L1, C1, nl1, nt1, ng1, ne1, f1, rfl, hI1, u1, u2, u3, hW, u4, u5⟩ := lw_hap hI0 (fun h => (hch.2.1 h).2.2) hp
  obtain ⟨z1, z2, z3⟩ := lw_chg hch u4 u5
  have j3 : k_mod n1 2 := hI1.2.2.1
  replace hl : lv_has ls 9 (lw_lv b (ad1 5 16 0) (ad1 2 14 0) o o2 k) := by rw [u2, u3]; exact hl
  replace kk : ∀ (H : Heap) (locs : List Loc) (ls : Array Slot), lw_J X (k + 1) (ad1 5 16 0) (ad1 2 14 0) o o2 H → (∀ q ∈ locs, k_B X ≤ q.base) → lv_has ls 9 (lw_lv b (ad1 5 16 0) (ad1 2 14 0) o o2 k) → W p l e room_1 s m #[Value.ref b] below meth c H locs (cells + 100) (slots + 1000) Q (F0 m 1811 ls []) := by rw [u2, u3]; exact kk
  refine lv_istore (lv' := [(6, .int (s_x_addTransfer (C 0) nl nt ng (xs (4 * k + 1)) (xs (4 * k + 2)) (xs (4 * k + 3)))), (0, .ref b), (1, .ref (ad1 5 16 0)), (2, .ref (ad1 2 14 0)), (3, .ref o), (4, .ref o2), (5, .int (nI (4 * k)))]) hx hb dL_law_299 hl (by decide) rfl (fun ls hl => ?_)
  refine lv_aload_n hx hb dL_law_301 rfl (lv_at hl 3 rfl) ?_
  refine lw_ia (j := 1) hx hb hX0 hXs hbl hW.1 hL (by omega) hL2 (lv_at hl 1 rfl) (lv_at hl 6 rfl) (ci := 1) rfl dL_law_302 dL_law_303 dL_law_305 dL_law_306 dL_law_307 ?_
  refine lw_ia (j := 2) hx hb hX0 hXs hbl hW.1 hL (by omega) hL2 (lv_at hl 1 rfl) (lv_at hl 6 rfl) (ci := 2) rfl dL_law_308 dL_law_309 dL_law_311 dL_law_312 dL_law_313 ?_
  refine lw_ia (j := 3) hx hb hX0 hXs hbl hW.1 hL (by omega) hL2 (lv_at hl 1 rfl) (lv_at hl 6 rfl) (ci := 3) rfl dL_law_314 dL_law_315 dL_law_317 dL_law_318 dL_law_319 ?_
  obtain ⟨fr1, hF, hback⟩ := hW.freeze
  replace hF := k_self hF 2
  rw [u1] at hF
  refine k_callV (As := [.int (xs (4 * k + 1)), .int (xs (4 * k + 2)), .int (xs (4 * k + 3))]) (rest := []) ⟨hx, hb, hml, hown, hts⟩ hK (c_X7_addTransfer X l j3 (C 2) (xs (4 * k + 1)) (xs (4 * k + 2)) (xs (4 * k + 3)) hV.wf) (cwV 3 hts gL_law_X7_addTransfer rfl rfl rfl (by decide +kernel) ⟨Nat.le_of_ble_eq_true rfl, Nat.le_of_ble_eq_true rfl⟩) (k_recv hK hF 14 0 j3.o (fun _ => rfl) rfl) hF rfl hl.1 rfl (Nat.le_of_ble_eq_true rfl) dL_law_320 ⟨by have := hcs.1; omega, by have := hcs.2; omega⟩ hL (fun v H locs hp hL => ?_)
  obtain ⟨rfl, hW⟩ := hp
  replace hW := hback _ _ _ _ _ hW
  refine lv_istore (lv' := [(7, .int (s_X7_addTransfer (C 2) nl nt ng (xs (4 * k + 1)) (xs (4 * k + 2)) (xs (4 * k + 3))).2), (6, .int (s_x_addTransfer (C 0) nl nt ng (xs (4 * k + 1)) (xs (4 * k + 2)) (xs (4 * k + 3)))), (0, .ref b), (1, .ref (ad1 5 16 0)), (2, .ref (ad1 2 14 0)), (3, .ref o), (4, .ref o2), (5, .int (nI (4 * k)))]) hx hb dL_law_323 hl (by decide) rfl (fun ls hl => ?_)
  refine lw_thr hx hb hml hown hts hK j3 hW hL z1 hl 4 1 rfl rfl ⟨by have := hcs.1; omega, by have := hcs.2; omega⟩ dL_law_325 dL_law_326 dL_law_329 dL_law_331 (fun H locs hW hL => ?_)
  refine k_more (cells' := cells + 100) (slots' := slots + 1000) (by omega) (by omega) ?_
  exact lw_cmp hx hb hK hW z3 hl 5 1 0 rfl rfl rfl (by decide) dL_law_336 dL_law_338 dL_law_341 dL_law_342 dL_law_343 dL_law_344 dL_law_346 dL_law_347 dL_law_348 dL_law_353 (kk _ _ _ ⟨n1, ad1, L1, k_g C1 2 (s_X7_addTransfer (C 2) nl nt ng (xs (4 * k + 1)) (xs (4 * k + 2)) (xs (4 * k + 3))).1, nl1, nt1, ng1, ne1, f1, fd, hI1.ref _, lw_V z2, rfl, rfl, hW⟩ hL (lv_sub hl [2, 3, 4, 5, 6, 7] rfl))
set_option maxHeartbeats 400000 in
set_option maxRecDepth 100000 in
theorem lw_c2 : lw_case 356 := by
  intro p l e s m below meth c H locs cells slots Q ls b Ln xs X n ad L C nl nt ng ne k o o2 f fd Z hk hI hV hW hL hl hcs kk
  obtain ⟨hx, hb, hml, hown, hts, hK, hX0, hXs, hbl, hL2, hl9, hfp⟩ := Z
  have hI0 := hI
  obtain ⟨i1, i2, i3, i4, i5, i6, i7, i8, i9, i10, i11⟩ := hI

  refine lv_aload_n hx hb dL_law_356 rfl (lv_at hl 1 rfl) ?_
  refine lw_ia (j := 1) hx hb hX0 hXs hbl hW.1 hL (by omega) hL2 (lv_at hl 0 rfl) (lv_at hl 5 rfl) (ci := 1) rfl dL_law_357 dL_law_358 dL_law_360 dL_law_361 dL_law_362 ?_
  refine lw_ia (j := 2) hx hb hX0 hXs hbl hW.1 hL (by omega) hL2 (lv_at hl 0 rfl) (lv_at hl 5 rfl) (ci := 2) rfl dL_law_363 dL_law_364 dL_law_366 dL_law_367 dL_law_368 ?_
  refine lv_aload_n hx hb dL_law_369 rfl (lv_at hl 3 rfl) ?_
  have hch := q_cPlan hV (xs (4 * k + 1)) (xs (4 * k + 2))
  replace hW : k_N X n ad L (k_g C 0 (C 0)) (fun _ => none) (lw_ws X o o2 f fd) H := by rw [k_g_self]; exact hW
  refine kx_callSX (As := [.ref (ad 5 16 0), .int (xs (4 * k + 1)), .int (xs (4 * k + 2)), .ref o]) (rest := []) ⟨hx, hb, hml, hown, hts⟩ hK (c_L_planDoor X l i1 (C 0) i2 i4 i5 (by omega) (xs (4 * k + 1)) (xs (4 * k + 2)) hl9) (vx_cwSW 4 hts gL_law_L_planDoor rfl rfl rfl (by decide +kernel) ⟨Nat.le_of_ble_eq_true rfl, Nat.le_of_ble_eq_true rfl⟩) hW rfl hl.1 rfl (Nat.le_of_ble_eq_true rfl) dL_law_370 ⟨by have := hcs.1; omega, by have := hcs.2; omega⟩ hL (fun E ce q H locs hp => hp.elim) (fun v H locs hp hL => ?_)
  obtain ⟨n1, ad1, L1, C1, nl1, nt1, ng1, ne1, f1, rfl, hI1, u1, u2, u3, hW, u4, u5⟩ := lw_hap hI0 (fun h => (hch.2.1 h).2.2) hp
  obtain ⟨z1, z2, z3⟩ := lw_chg hch u4 u5
  have j3 : k_mod n1 2 := hI1.2.2.1
  replace hl : lv_has ls 9 (lw_lv b (ad1 5 16 0) (ad1 2 14 0) o o2 k) := by rw [u2, u3]; exact hl
  replace kk : ∀ (H : Heap) (locs : List Loc) (ls : Array Slot), lw_J X (k + 1) (ad1 5 16 0) (ad1 2 14 0) o o2 H → (∀ q ∈ locs, k_B X ≤ q.base) → lv_has ls 9 (lw_lv b (ad1 5 16 0) (ad1 2 14 0) o o2 k) → W p l e room_1 s m #[Value.ref b] below meth c H locs (cells + 100) (slots + 1000) Q (F0 m 1811 ls []) := by rw [u2, u3]; exact kk
  refine lv_istore (lv' := [(6, .int (s_x_planDoor (C 0) nl nt ng (xs (4 * k + 1)) (xs (4 * k + 2)))), (0, .ref b), (1, .ref (ad1 5 16 0)), (2, .ref (ad1 2 14 0)), (3, .ref o), (4, .ref o2), (5, .int (nI (4 * k)))]) hx hb dL_law_373 hl (by decide) rfl (fun ls hl => ?_)
  refine lv_aload_n hx hb dL_law_375 rfl (lv_at hl 3 rfl) ?_
  refine lw_ia (j := 1) hx hb hX0 hXs hbl hW.1 hL (by omega) hL2 (lv_at hl 1 rfl) (lv_at hl 6 rfl) (ci := 1) rfl dL_law_376 dL_law_377 dL_law_379 dL_law_380 dL_law_381 ?_
  refine lw_ia (j := 2) hx hb hX0 hXs hbl hW.1 hL (by omega) hL2 (lv_at hl 1 rfl) (lv_at hl 6 rfl) (ci := 2) rfl dL_law_382 dL_law_383 dL_law_385 dL_law_386 dL_law_387 ?_
  obtain ⟨fr1, hF, hback⟩ := hW.freeze
  replace hF := k_self hF 2
  rw [u1] at hF
  refine k_callV (As := [.int (xs (4 * k + 1)), .int (xs (4 * k + 2))]) (rest := []) ⟨hx, hb, hml, hown, hts⟩ hK (c_X7_planDoor X l j3 (C 2) (xs (4 * k + 1)) (xs (4 * k + 2)) hV.wf) (cwV 2 hts gL_law_X7_planDoor rfl rfl rfl (by decide +kernel) ⟨Nat.le_of_ble_eq_true rfl, Nat.le_of_ble_eq_true rfl⟩) (k_recv hK hF 14 0 j3.o (fun _ => rfl) rfl) hF rfl hl.1 rfl (Nat.le_of_ble_eq_true rfl) dL_law_388 ⟨by have := hcs.1; omega, by have := hcs.2; omega⟩ hL (fun v H locs hp hL => ?_)
  obtain ⟨rfl, hW⟩ := hp
  replace hW := hback _ _ _ _ _ hW
  refine lv_istore (lv' := [(7, .int (s_X7_planDoor (C 2) nl nt ng (xs (4 * k + 1)) (xs (4 * k + 2))).2), (6, .int (s_x_planDoor (C 0) nl nt ng (xs (4 * k + 1)) (xs (4 * k + 2)))), (0, .ref b), (1, .ref (ad1 5 16 0)), (2, .ref (ad1 2 14 0)), (3, .ref o), (4, .ref o2), (5, .int (nI (4 * k)))]) hx hb dL_law_391 hl (by decide) rfl (fun ls hl => ?_)
  refine lw_thr hx hb hml hown hts hK j3 hW hL z1 hl 4 1 rfl rfl ⟨by have := hcs.1; omega, by have := hcs.2; omega⟩ dL_law_393 dL_law_394 dL_law_397 dL_law_399 (fun H locs hW hL => ?_)
  refine k_more (cells' := cells + 100) (slots' := slots + 1000) (by omega) (by omega) ?_
  exact lw_cmp hx hb hK hW z3 hl 5 1 0 rfl rfl rfl (by decide) dL_law_404 dL_law_406 dL_law_409 dL_law_410 dL_law_411 dL_law_412 dL_law_414 dL_law_415 dL_law_416 dL_law_421 (kk _ _ _ ⟨n1, ad1, L1, k_g C1 2 (s_X7_planDoor (C 2) nl nt ng (xs (4 * k + 1)) (xs (4 * k + 2))).1, nl1, nt1, ng1, ne1, f1, fd, hI1.ref _, lw_V z2, rfl, rfl, hW⟩ hL (lv_sub hl [2, 3, 4, 5, 6, 7] rfl))
set_option maxHeartbeats 400000 in
set_option maxRecDepth 100000 in
theorem lw_c3 : lw_case 424 := by
  intro p l e s m below meth c H locs cells slots Q ls b Ln xs X n ad L C nl nt ng ne k o o2 f fd Z hk hI hV hW hL hl hcs kk
  obtain ⟨hx, hb, hml, hown, hts, hK, hX0, hXs, hbl, hL2, hl9, hfp⟩ := Z
  have hI0 := hI
  obtain ⟨i1, i2, i3, i4, i5, i6, i7, i8, i9, i10, i11⟩ := hI

  refine lv_aload_n hx hb dL_law_424 rfl (lv_at hl 1 rfl) ?_
  refine lw_ia (j := 1) hx hb hX0 hXs hbl hW.1 hL (by omega) hL2 (lv_at hl 0 rfl) (lv_at hl 5 rfl) (ci := 1) rfl dL_law_425 dL_law_426 dL_law_428 dL_law_429 dL_law_430 ?_
  refine lv_aload_n hx hb dL_law_431 rfl (lv_at hl 3 rfl) ?_
  have hch := q_cArrive hV (xs (4 * k + 1))
  replace hW : k_N X n ad L (k_g C 0 (C 0)) (fun _ => none) (lw_ws X o o2 f fd) H := by rw [k_g_self]; exact hW
  refine kx_callSX (As := [.ref (ad 5 16 0), .int (xs (4 * k + 1)), .ref o]) (rest := []) ⟨hx, hb, hml, hown, hts⟩ hK (c_L_arrive X l i1 (C 0) i2 i4 i5 (by omega) (xs (4 * k + 1)) hl9) (vx_cwSW 3 hts gL_law_L_arrive rfl rfl rfl (by decide +kernel) ⟨Nat.le_of_ble_eq_true rfl, Nat.le_of_ble_eq_true rfl⟩) hW rfl hl.1 rfl (Nat.le_of_ble_eq_true rfl) dL_law_432 ⟨by have := hcs.1; omega, by have := hcs.2; omega⟩ hL (fun E ce q H locs hp => hp.elim) (fun v H locs hp hL => ?_)
  obtain ⟨n1, ad1, L1, C1, nl1, nt1, ng1, ne1, f1, rfl, hI1, u1, u2, u3, hW, u4, u5⟩ := lw_hap hI0 (fun h => (hch.2.1 h).2.2) hp
  obtain ⟨z1, z2, z3⟩ := lw_chg hch u4 u5
  have j3 : k_mod n1 2 := hI1.2.2.1
  replace hl : lv_has ls 9 (lw_lv b (ad1 5 16 0) (ad1 2 14 0) o o2 k) := by rw [u2, u3]; exact hl
  replace kk : ∀ (H : Heap) (locs : List Loc) (ls : Array Slot), lw_J X (k + 1) (ad1 5 16 0) (ad1 2 14 0) o o2 H → (∀ q ∈ locs, k_B X ≤ q.base) → lv_has ls 9 (lw_lv b (ad1 5 16 0) (ad1 2 14 0) o o2 k) → W p l e room_1 s m #[Value.ref b] below meth c H locs (cells + 100) (slots + 1000) Q (F0 m 1811 ls []) := by rw [u2, u3]; exact kk
  refine lv_istore (lv' := [(6, .int (s_x_arrive (C 0) nl nt ng (xs (4 * k + 1)))), (0, .ref b), (1, .ref (ad1 5 16 0)), (2, .ref (ad1 2 14 0)), (3, .ref o), (4, .ref o2), (5, .int (nI (4 * k)))]) hx hb dL_law_435 hl (by decide) rfl (fun ls hl => ?_)
  refine lv_aload_n hx hb dL_law_437 rfl (lv_at hl 3 rfl) ?_
  refine lw_ia (j := 1) hx hb hX0 hXs hbl hW.1 hL (by omega) hL2 (lv_at hl 1 rfl) (lv_at hl 6 rfl) (ci := 1) rfl dL_law_438 dL_law_439 dL_law_441 dL_law_442 dL_law_443 ?_
  obtain ⟨fr1, hF, hback⟩ := hW.freeze
  replace hF := k_self hF 2
  rw [u1] at hF
  refine k_callV (As := [.int (xs (4 * k + 1))]) (rest := []) ⟨hx, hb, hml, hown, hts⟩ hK (c_X7_arrive X l j3 (C 2) (xs (4 * k + 1)) hV.wf) (cwV 1 hts gL_law_X7_arrive rfl rfl rfl (by decide +kernel) ⟨Nat.le_of_ble_eq_true rfl, Nat.le_of_ble_eq_true rfl⟩) (k_recv hK hF 14 0 j3.o (fun _ => rfl) rfl) hF rfl hl.1 rfl (Nat.le_of_ble_eq_true rfl) dL_law_444 ⟨by have := hcs.1; omega, by have := hcs.2; omega⟩ hL (fun v H locs hp hL => ?_)
  obtain ⟨rfl, hW⟩ := hp
  replace hW := hback _ _ _ _ _ hW
  refine lv_istore (lv' := [(7, .int (s_X7_arrive (C 2) nl nt ng (xs (4 * k + 1))).2), (6, .int (s_x_arrive (C 0) nl nt ng (xs (4 * k + 1)))), (0, .ref b), (1, .ref (ad1 5 16 0)), (2, .ref (ad1 2 14 0)), (3, .ref o), (4, .ref o2), (5, .int (nI (4 * k)))]) hx hb dL_law_447 hl (by decide) rfl (fun ls hl => ?_)
  refine lw_thr hx hb hml hown hts hK j3 hW hL z1 hl 4 1 rfl rfl ⟨by have := hcs.1; omega, by have := hcs.2; omega⟩ dL_law_449 dL_law_450 dL_law_453 dL_law_455 (fun H locs hW hL => ?_)
  refine k_more (cells' := cells + 100) (slots' := slots + 1000) (by omega) (by omega) ?_
  exact lw_cmp hx hb hK hW z3 hl 5 1 0 rfl rfl rfl (by decide) dL_law_460 dL_law_462 dL_law_465 dL_law_466 dL_law_467 dL_law_468 dL_law_470 dL_law_471 dL_law_472 dL_law_477 (kk _ _ _ ⟨n1, ad1, L1, k_g C1 2 (s_X7_arrive (C 2) nl nt ng (xs (4 * k + 1))).1, nl1, nt1, ng1, ne1, f1, fd, hI1.ref _, lw_V z2, rfl, rfl, hW⟩ hL (lv_sub hl [2, 3, 4, 5, 6, 7] rfl))
set_option maxHeartbeats 400000 in
set_option maxRecDepth 100000 in
theorem lw_c4 : lw_case 480 := by
  intro p l e s m below meth c H locs cells slots Q ls b Ln xs X n ad L C nl nt ng ne k o o2 f fd Z hk hI hV hW hL hl hcs kk
  obtain ⟨hx, hb, hml, hown, hts, hK, hX0, hXs, hbl, hL2, hl9, hfp⟩ := Z
  have hI0 := hI
  obtain ⟨i1, i2, i3, i4, i5, i6, i7, i8, i9, i10, i11⟩ := hI

  refine lv_aload_n hx hb dL_law_480 rfl (lv_at hl 1 rfl) ?_
  refine lw_ia (j := 1) hx hb hX0 hXs hbl hW.1 hL (by omega) hL2 (lv_at hl 0 rfl) (lv_at hl 5 rfl) (ci := 1) rfl dL_law_481 dL_law_482 dL_law_484 dL_law_485 dL_law_486 ?_
  refine lv_aload_n hx hb dL_law_487 rfl (lv_at hl 3 rfl) ?_
  have hch := q_cSend hV (xs (4 * k + 1))
  replace hW : k_N X n ad L (k_g C 0 (C 0)) (fun _ => none) (lw_ws X o o2 f fd) H := by rw [k_g_self]; exact hW
  refine kx_callSX (As := [.ref (ad 5 16 0), .int (xs (4 * k + 1)), .ref o]) (rest := []) ⟨hx, hb, hml, hown, hts⟩ hK (c_L_sendOff X l i1 (C 0) i2 i4 i5 (by omega) (xs (4 * k + 1)) hl9) (vx_cwSW 3 hts gL_law_L_sendOff rfl rfl rfl (by decide +kernel) ⟨Nat.le_of_ble_eq_true rfl, Nat.le_of_ble_eq_true rfl⟩) hW rfl hl.1 rfl (Nat.le_of_ble_eq_true rfl) dL_law_488 ⟨by have := hcs.1; omega, by have := hcs.2; omega⟩ hL (fun E ce q H locs hp => hp.elim) (fun v H locs hp hL => ?_)
  obtain ⟨n1, ad1, L1, C1, nl1, nt1, ng1, ne1, f1, rfl, hI1, u1, u2, u3, hW, u4, u5⟩ := lw_hap hI0 (fun h => (hch.2.1 h).2.2) hp
  obtain ⟨z1, z2, z3⟩ := lw_chg hch u4 u5
  have j3 : k_mod n1 2 := hI1.2.2.1
  replace hl : lv_has ls 9 (lw_lv b (ad1 5 16 0) (ad1 2 14 0) o o2 k) := by rw [u2, u3]; exact hl
  replace kk : ∀ (H : Heap) (locs : List Loc) (ls : Array Slot), lw_J X (k + 1) (ad1 5 16 0) (ad1 2 14 0) o o2 H → (∀ q ∈ locs, k_B X ≤ q.base) → lv_has ls 9 (lw_lv b (ad1 5 16 0) (ad1 2 14 0) o o2 k) → W p l e room_1 s m #[Value.ref b] below meth c H locs (cells + 100) (slots + 1000) Q (F0 m 1811 ls []) := by rw [u2, u3]; exact kk
  refine lv_istore (lv' := [(6, .int (s_x_sendOff (C 0) nl nt ng (xs (4 * k + 1)))), (0, .ref b), (1, .ref (ad1 5 16 0)), (2, .ref (ad1 2 14 0)), (3, .ref o), (4, .ref o2), (5, .int (nI (4 * k)))]) hx hb dL_law_491 hl (by decide) rfl (fun ls hl => ?_)
  refine lv_aload_n hx hb dL_law_493 rfl (lv_at hl 3 rfl) ?_
  refine lw_ia (j := 1) hx hb hX0 hXs hbl hW.1 hL (by omega) hL2 (lv_at hl 1 rfl) (lv_at hl 6 rfl) (ci := 1) rfl dL_law_494 dL_law_495 dL_law_497 dL_law_498 dL_law_499 ?_
  obtain ⟨fr1, hF, hback⟩ := hW.freeze
  replace hF := k_self hF 2
  rw [u1] at hF
  refine k_callV (As := [.int (xs (4 * k + 1))]) (rest := []) ⟨hx, hb, hml, hown, hts⟩ hK (c_X7_sendOff X l j3 (C 2) (xs (4 * k + 1)) hV.wf) (cwV 1 hts gL_law_X7_sendOff rfl rfl rfl (by decide +kernel) ⟨Nat.le_of_ble_eq_true rfl, Nat.le_of_ble_eq_true rfl⟩) (k_recv hK hF 14 0 j3.o (fun _ => rfl) rfl) hF rfl hl.1 rfl (Nat.le_of_ble_eq_true rfl) dL_law_500 ⟨by have := hcs.1; omega, by have := hcs.2; omega⟩ hL (fun v H locs hp hL => ?_)
  obtain ⟨rfl, hW⟩ := hp
  replace hW := hback _ _ _ _ _ hW
  refine lv_istore (lv' := [(7, .int (s_X7_sendOff (C 2) nl nt ng (xs (4 * k + 1))).2), (6, .int (s_x_sendOff (C 0) nl nt ng (xs (4 * k + 1)))), (0, .ref b), (1, .ref (ad1 5 16 0)), (2, .ref (ad1 2 14 0)), (3, .ref o), (4, .ref o2), (5, .int (nI (4 * k)))]) hx hb dL_law_503 hl (by decide) rfl (fun ls hl => ?_)
  refine lw_thr hx hb hml hown hts hK j3 hW hL z1 hl 4 1 rfl rfl ⟨by have := hcs.1; omega, by have := hcs.2; omega⟩ dL_law_505 dL_law_506 dL_law_509 dL_law_511 (fun H locs hW hL => ?_)
  refine k_more (cells' := cells + 100) (slots' := slots + 1000) (by omega) (by omega) ?_
  exact lw_cmp hx hb hK hW z3 hl 5 1 0 rfl rfl rfl (by decide) dL_law_516 dL_law_518 dL_law_521 dL_law_522 dL_law_523 dL_law_524 dL_law_526 dL_law_527 dL_law_528 dL_law_533 (kk _ _ _ ⟨n1, ad1, L1, k_g C1 2 (s_X7_sendOff (C 2) nl nt ng (xs (4 * k + 1))).1, nl1, nt1, ng1, ne1, f1, fd, hI1.ref _, lw_V z2, rfl, rfl, hW⟩ hL (lv_sub hl [2, 3, 4, 5, 6, 7] rfl))
set_option maxHeartbeats 400000 in
set_option maxRecDepth 100000 in
theorem lw_c5 : lw_case 536 := by
  intro p l e s m below meth c H locs cells slots Q ls b Ln xs X n ad L C nl nt ng ne k o o2 f fd Z hk hI hV hW hL hl hcs kk
  obtain ⟨hx, hb, hml, hown, hts, hK, hX0, hXs, hbl, hL2, hl9, hfp⟩ := Z
  have hI0 := hI
  obtain ⟨i1, i2, i3, i4, i5, i6, i7, i8, i9, i10, i11⟩ := hI

  refine lv_aload_n hx hb dL_law_536 rfl (lv_at hl 1 rfl) ?_
  refine lw_ia (j := 1) hx hb hX0 hXs hbl hW.1 hL (by omega) hL2 (lv_at hl 0 rfl) (lv_at hl 5 rfl) (ci := 1) rfl dL_law_537 dL_law_538 dL_law_540 dL_law_541 dL_law_542 ?_
  refine lw_ia (j := 2) hx hb hX0 hXs hbl hW.1 hL (by omega) hL2 (lv_at hl 0 rfl) (lv_at hl 5 rfl) (ci := 2) rfl dL_law_543 dL_law_544 dL_law_546 dL_law_547 dL_law_548 ?_
  refine lw_ia (j := 3) hx hb hX0 hXs hbl hW.1 hL (by omega) hL2 (lv_at hl 0 rfl) (lv_at hl 5 rfl) (ci := 3) rfl dL_law_549 dL_law_550 dL_law_552 dL_law_553 dL_law_554 ?_
  refine lv_aload_n hx hb dL_law_555 rfl (lv_at hl 3 rfl) ?_
  have hch := q_cAddGang hV (xs (4 * k + 1)) (xs (4 * k + 2)) (xs (4 * k + 3))
  replace hW : k_N X n ad L (k_g C 0 (C 0)) (fun _ => none) (lw_ws X o o2 f fd) H := by rw [k_g_self]; exact hW
  refine kx_callSX (As := [.ref (ad 5 16 0), .int (xs (4 * k + 1)), .int (xs (4 * k + 2)), .int (xs (4 * k + 3)), .ref o]) (rest := []) ⟨hx, hb, hml, hown, hts⟩ hK (c_L_addGang X l i1 (C 0) i2 i4 i5 (by omega) (xs (4 * k + 1)) (xs (4 * k + 2)) (xs (4 * k + 3)) hl9) (vx_cwSW 5 hts gL_law_L_addGang rfl rfl rfl (by decide +kernel) ⟨Nat.le_of_ble_eq_true rfl, Nat.le_of_ble_eq_true rfl⟩) hW rfl hl.1 rfl (Nat.le_of_ble_eq_true rfl) dL_law_556 ⟨by have := hcs.1; omega, by have := hcs.2; omega⟩ hL (fun E ce q H locs hp => hp.elim) (fun v H locs hp hL => ?_)
  obtain ⟨n1, ad1, L1, C1, nl1, nt1, ng1, ne1, f1, rfl, hI1, u1, u2, u3, hW, u4, u5⟩ := lw_hap hI0 (fun h => (hch.2.1 h).2.2) hp
  obtain ⟨z1, z2, z3⟩ := lw_chg hch u4 u5
  have j3 : k_mod n1 2 := hI1.2.2.1
  replace hl : lv_has ls 9 (lw_lv b (ad1 5 16 0) (ad1 2 14 0) o o2 k) := by rw [u2, u3]; exact hl
  replace kk : ∀ (H : Heap) (locs : List Loc) (ls : Array Slot), lw_J X (k + 1) (ad1 5 16 0) (ad1 2 14 0) o o2 H → (∀ q ∈ locs, k_B X ≤ q.base) → lv_has ls 9 (lw_lv b (ad1 5 16 0) (ad1 2 14 0) o o2 k) → W p l e room_1 s m #[Value.ref b] below meth c H locs (cells + 100) (slots + 1000) Q (F0 m 1811 ls []) := by rw [u2, u3]; exact kk
  refine lv_istore (lv' := [(6, .int (s_x_addGang (C 0) nl nt ng (xs (4 * k + 1)) (xs (4 * k + 2)) (xs (4 * k + 3)))), (0, .ref b), (1, .ref (ad1 5 16 0)), (2, .ref (ad1 2 14 0)), (3, .ref o), (4, .ref o2), (5, .int (nI (4 * k)))]) hx hb dL_law_559 hl (by decide) rfl (fun ls hl => ?_)
  refine lv_aload_n hx hb dL_law_561 rfl (lv_at hl 3 rfl) ?_
  refine lw_ia (j := 1) hx hb hX0 hXs hbl hW.1 hL (by omega) hL2 (lv_at hl 1 rfl) (lv_at hl 6 rfl) (ci := 1) rfl dL_law_562 dL_law_563 dL_law_565 dL_law_566 dL_law_567 ?_
  refine lw_ia (j := 2) hx hb hX0 hXs hbl hW.1 hL (by omega) hL2 (lv_at hl 1 rfl) (lv_at hl 6 rfl) (ci := 2) rfl dL_law_568 dL_law_569 dL_law_571 dL_law_572 dL_law_573 ?_
  refine lw_ia (j := 3) hx hb hX0 hXs hbl hW.1 hL (by omega) hL2 (lv_at hl 1 rfl) (lv_at hl 6 rfl) (ci := 3) rfl dL_law_574 dL_law_575 dL_law_577 dL_law_578 dL_law_579 ?_
  obtain ⟨fr1, hF, hback⟩ := hW.freeze
  replace hF := k_self hF 2
  rw [u1] at hF
  refine k_callV (As := [.int (xs (4 * k + 1)), .int (xs (4 * k + 2)), .int (xs (4 * k + 3))]) (rest := []) ⟨hx, hb, hml, hown, hts⟩ hK (c_X7_addGang X l j3 (C 2) (xs (4 * k + 1)) (xs (4 * k + 2)) (xs (4 * k + 3)) hV.wf) (cwV 3 hts gL_law_X7_addGang rfl rfl rfl (by decide +kernel) ⟨Nat.le_of_ble_eq_true rfl, Nat.le_of_ble_eq_true rfl⟩) (k_recv hK hF 14 0 j3.o (fun _ => rfl) rfl) hF rfl hl.1 rfl (Nat.le_of_ble_eq_true rfl) dL_law_580 ⟨by have := hcs.1; omega, by have := hcs.2; omega⟩ hL (fun v H locs hp hL => ?_)
  obtain ⟨rfl, hW⟩ := hp
  replace hW := hback _ _ _ _ _ hW
  refine lv_istore (lv' := [(7, .int (s_X7_addGang (C 2) nl nt ng (xs (4 * k + 1)) (xs (4 * k + 2)) (xs (4 * k + 3))).2), (6, .int (s_x_addGang (C 0) nl nt ng (xs (4 * k + 1)) (xs (4 * k + 2)) (xs (4 * k + 3)))), (0, .ref b), (1, .ref (ad1 5 16 0)), (2, .ref (ad1 2 14 0)), (3, .ref o), (4, .ref o2), (5, .int (nI (4 * k)))]) hx hb dL_law_583 hl (by decide) rfl (fun ls hl => ?_)
  refine lw_thr hx hb hml hown hts hK j3 hW hL z1 hl 4 1 rfl rfl ⟨by have := hcs.1; omega, by have := hcs.2; omega⟩ dL_law_585 dL_law_586 dL_law_589 dL_law_591 (fun H locs hW hL => ?_)
  refine k_more (cells' := cells + 100) (slots' := slots + 1000) (by omega) (by omega) ?_
  exact lw_cmp hx hb hK hW z3 hl 5 1 0 rfl rfl rfl (by decide) dL_law_596 dL_law_598 dL_law_601 dL_law_602 dL_law_603 dL_law_604 dL_law_606 dL_law_607 dL_law_608 dL_law_613 (kk _ _ _ ⟨n1, ad1, L1, k_g C1 2 (s_X7_addGang (C 2) nl nt ng (xs (4 * k + 1)) (xs (4 * k + 2)) (xs (4 * k + 3))).1, nl1, nt1, ng1, ne1, f1, fd, hI1.ref _, lw_V z2, rfl, rfl, hW⟩ hL (lv_sub hl [2, 3, 4, 5, 6, 7] rfl))
set_option maxHeartbeats 400000 in
set_option maxRecDepth 100000 in
theorem lw_c6 : lw_case 616 := by
  intro p l e s m below meth c H locs cells slots Q ls b Ln xs X n ad L C nl nt ng ne k o o2 f fd Z hk hI hV hW hL hl hcs kk
  obtain ⟨hx, hb, hml, hown, hts, hK, hX0, hXs, hbl, hL2, hl9, hfp⟩ := Z
  have hI0 := hI
  obtain ⟨i1, i2, i3, i4, i5, i6, i7, i8, i9, i10, i11⟩ := hI

  refine lv_aload_n hx hb dL_law_616 rfl (lv_at hl 1 rfl) ?_
  refine lw_ia (j := 1) hx hb hX0 hXs hbl hW.1 hL (by omega) hL2 (lv_at hl 0 rfl) (lv_at hl 5 rfl) (ci := 1) rfl dL_law_617 dL_law_618 dL_law_620 dL_law_621 dL_law_622 ?_
  refine lw_ia (j := 2) hx hb hX0 hXs hbl hW.1 hL (by omega) hL2 (lv_at hl 0 rfl) (lv_at hl 5 rfl) (ci := 2) rfl dL_law_623 dL_law_624 dL_law_626 dL_law_627 dL_law_628 ?_
  refine lv_aload_n hx hb dL_law_629 rfl (lv_at hl 3 rfl) ?_
  have hch := q_cMove hV (xs (4 * k + 1)) (xs (4 * k + 2))
  replace hW : k_N X n ad L (k_g C 0 (C 0)) (fun _ => none) (lw_ws X o o2 f fd) H := by rw [k_g_self]; exact hW
  refine kx_callSX (As := [.ref (ad 5 16 0), .int (xs (4 * k + 1)), .int (xs (4 * k + 2)), .ref o]) (rest := []) ⟨hx, hb, hml, hown, hts⟩ hK (c_L_moveGang X l i1 (C 0) i2 i4 i5 (by omega) (xs (4 * k + 1)) (xs (4 * k + 2)) hl9) (vx_cwSW 4 hts gL_law_L_moveGang rfl rfl rfl (by decide +kernel) ⟨Nat.le_of_ble_eq_true rfl, Nat.le_of_ble_eq_true rfl⟩) hW rfl hl.1 rfl (Nat.le_of_ble_eq_true rfl) dL_law_630 ⟨by have := hcs.1; omega, by have := hcs.2; omega⟩ hL (fun E ce q H locs hp => hp.elim) (fun v H locs hp hL => ?_)
  obtain ⟨n1, ad1, L1, C1, nl1, nt1, ng1, ne1, f1, rfl, hI1, u1, u2, u3, hW, u4, u5⟩ := lw_hap hI0 (fun h => (hch.2.1 h).2.2) hp
  obtain ⟨z1, z2, z3⟩ := lw_chg hch u4 u5
  have j3 : k_mod n1 2 := hI1.2.2.1
  replace hl : lv_has ls 9 (lw_lv b (ad1 5 16 0) (ad1 2 14 0) o o2 k) := by rw [u2, u3]; exact hl
  replace kk : ∀ (H : Heap) (locs : List Loc) (ls : Array Slot), lw_J X (k + 1) (ad1 5 16 0) (ad1 2 14 0) o o2 H → (∀ q ∈ locs, k_B X ≤ q.base) → lv_has ls 9 (lw_lv b (ad1 5 16 0) (ad1 2 14 0) o o2 k) → W p l e room_1 s m #[Value.ref b] below meth c H locs (cells + 100) (slots + 1000) Q (F0 m 1811 ls []) := by rw [u2, u3]; exact kk
  refine lv_istore (lv' := [(6, .int (s_x_moveGang (C 0) nl nt ng (xs (4 * k + 1)) (xs (4 * k + 2)))), (0, .ref b), (1, .ref (ad1 5 16 0)), (2, .ref (ad1 2 14 0)), (3, .ref o), (4, .ref o2), (5, .int (nI (4 * k)))]) hx hb dL_law_633 hl (by decide) rfl (fun ls hl => ?_)
  refine lv_aload_n hx hb dL_law_635 rfl (lv_at hl 3 rfl) ?_
  refine lw_ia (j := 1) hx hb hX0 hXs hbl hW.1 hL (by omega) hL2 (lv_at hl 1 rfl) (lv_at hl 6 rfl) (ci := 1) rfl dL_law_636 dL_law_637 dL_law_639 dL_law_640 dL_law_641 ?_
  refine lw_ia (j := 2) hx hb hX0 hXs hbl hW.1 hL (by omega) hL2 (lv_at hl 1 rfl) (lv_at hl 6 rfl) (ci := 2) rfl dL_law_642 dL_law_643 dL_law_645 dL_law_646 dL_law_647 ?_
  obtain ⟨fr1, hF, hback⟩ := hW.freeze
  replace hF := k_self hF 2
  rw [u1] at hF
  refine k_callV (As := [.int (xs (4 * k + 1)), .int (xs (4 * k + 2))]) (rest := []) ⟨hx, hb, hml, hown, hts⟩ hK (c_X7_moveGang X l j3 (C 2) (xs (4 * k + 1)) (xs (4 * k + 2)) hV.wf) (cwV 2 hts gL_law_X7_moveGang rfl rfl rfl (by decide +kernel) ⟨Nat.le_of_ble_eq_true rfl, Nat.le_of_ble_eq_true rfl⟩) (k_recv hK hF 14 0 j3.o (fun _ => rfl) rfl) hF rfl hl.1 rfl (Nat.le_of_ble_eq_true rfl) dL_law_648 ⟨by have := hcs.1; omega, by have := hcs.2; omega⟩ hL (fun v H locs hp hL => ?_)
  obtain ⟨rfl, hW⟩ := hp
  replace hW := hback _ _ _ _ _ hW
  refine lv_istore (lv' := [(7, .int (s_X7_moveGang (C 2) nl nt ng (xs (4 * k + 1)) (xs (4 * k + 2))).2), (6, .int (s_x_moveGang (C 0) nl nt ng (xs (4 * k + 1)) (xs (4 * k + 2)))), (0, .ref b), (1, .ref (ad1 5 16 0)), (2, .ref (ad1 2 14 0)), (3, .ref o), (4, .ref o2), (5, .int (nI (4 * k)))]) hx hb dL_law_651 hl (by decide) rfl (fun ls hl => ?_)
  refine lw_thr hx hb hml hown hts hK j3 hW hL z1 hl 4 1 rfl rfl ⟨by have := hcs.1; omega, by have := hcs.2; omega⟩ dL_law_653 dL_law_654 dL_law_657 dL_law_659 (fun H locs hW hL => ?_)
  refine k_more (cells' := cells + 100) (slots' := slots + 1000) (by omega) (by omega) ?_
  exact lw_cmp hx hb hK hW z3 hl 5 1 0 rfl rfl rfl (by decide) dL_law_664 dL_law_666 dL_law_669 dL_law_670 dL_law_671 dL_law_672 dL_law_674 dL_law_675 dL_law_676 dL_law_681 (kk _ _ _ ⟨n1, ad1, L1, k_g C1 2 (s_X7_moveGang (C 2) nl nt ng (xs (4 * k + 1)) (xs (4 * k + 2))).1, nl1, nt1, ng1, ne1, f1, fd, hI1.ref _, lw_V z2, rfl, rfl, hW⟩ hL (lv_sub hl [2, 3, 4, 5, 6, 7] rfl))
set_option maxHeartbeats 400000 in
set_option maxRecDepth 100000 in
theorem lw_c7 : lw_case 684 := by
  intro p l e s m below meth c H locs cells slots Q ls b Ln xs X n ad L C nl nt ng ne k o o2 f fd Z hk hI hV hW hL hl hcs kk
  obtain ⟨hx, hb, hml, hown, hts, hK, hX0, hXs, hbl, hL2, hl9, hfp⟩ := Z
  have hI0 := hI
  obtain ⟨i1, i2, i3, i4, i5, i6, i7, i8, i9, i10, i11⟩ := hI

  refine lv_aload_n hx hb dL_law_684 rfl (lv_at hl 1 rfl) ?_
  refine lw_ia (j := 1) hx hb hX0 hXs hbl hW.1 hL (by omega) hL2 (lv_at hl 0 rfl) (lv_at hl 5 rfl) (ci := 1) rfl dL_law_685 dL_law_686 dL_law_688 dL_law_689 dL_law_690 ?_
  refine lv_aload_n hx hb dL_law_691 rfl (lv_at hl 3 rfl) ?_
  have hch := q_cPass hV (xs (4 * k + 1))
  replace hW : k_N X n ad L (k_g C 0 (C 0)) (fun _ => none) (lw_ws X o o2 f fd) H := by rw [k_g_self]; exact hW
  refine kx_callSX (As := [.ref (ad 5 16 0), .int (xs (4 * k + 1)), .ref o]) (rest := []) ⟨hx, hb, hml, hown, hts⟩ hK (c_L_pass X l i1 (C 0) i2 i4 i5 (by omega) (xs (4 * k + 1)) hl9) (vx_cwSW 3 hts gL_law_L_pass rfl rfl rfl (by decide +kernel) ⟨Nat.le_of_ble_eq_true rfl, Nat.le_of_ble_eq_true rfl⟩) hW rfl hl.1 rfl (Nat.le_of_ble_eq_true rfl) dL_law_692 ⟨by have := hcs.1; omega, by have := hcs.2; omega⟩ hL (fun E ce q H locs hp => hp.elim) (fun v H locs hp hL => ?_)
  obtain ⟨n1, ad1, L1, C1, nl1, nt1, ng1, ne1, f1, rfl, hI1, u1, u2, u3, hW, u4, u5⟩ := lw_hap hI0 (fun h => (hch.2.1 h).2.2) hp
  obtain ⟨z1, z2, z3⟩ := lw_chg hch u4 u5
  have j3 : k_mod n1 2 := hI1.2.2.1
  replace hl : lv_has ls 9 (lw_lv b (ad1 5 16 0) (ad1 2 14 0) o o2 k) := by rw [u2, u3]; exact hl
  replace kk : ∀ (H : Heap) (locs : List Loc) (ls : Array Slot), lw_J X (k + 1) (ad1 5 16 0) (ad1 2 14 0) o o2 H → (∀ q ∈ locs, k_B X ≤ q.base) → lv_has ls 9 (lw_lv b (ad1 5 16 0) (ad1 2 14 0) o o2 k) → W p l e room_1 s m #[Value.ref b] below meth c H locs (cells + 100) (slots + 1000) Q (F0 m 1811 ls []) := by rw [u2, u3]; exact kk
  refine lv_istore (lv' := [(6, .int (s_x_pass (C 0) nl nt ng (xs (4 * k + 1)))), (0, .ref b), (1, .ref (ad1 5 16 0)), (2, .ref (ad1 2 14 0)), (3, .ref o), (4, .ref o2), (5, .int (nI (4 * k)))]) hx hb dL_law_695 hl (by decide) rfl (fun ls hl => ?_)
  refine lv_aload_n hx hb dL_law_697 rfl (lv_at hl 3 rfl) ?_
  refine lw_ia (j := 1) hx hb hX0 hXs hbl hW.1 hL (by omega) hL2 (lv_at hl 1 rfl) (lv_at hl 6 rfl) (ci := 1) rfl dL_law_698 dL_law_699 dL_law_701 dL_law_702 dL_law_703 ?_
  obtain ⟨fr1, hF, hback⟩ := hW.freeze
  replace hF := k_self hF 2
  rw [u1] at hF
  refine k_callV (As := [.int (xs (4 * k + 1))]) (rest := []) ⟨hx, hb, hml, hown, hts⟩ hK (c_X7_pass X l j3 (C 2) (xs (4 * k + 1)) hV.wf) (cwV 1 hts gL_law_X7_pass rfl rfl rfl (by decide +kernel) ⟨Nat.le_of_ble_eq_true rfl, Nat.le_of_ble_eq_true rfl⟩) (k_recv hK hF 14 0 j3.o (fun _ => rfl) rfl) hF rfl hl.1 rfl (Nat.le_of_ble_eq_true rfl) dL_law_704 ⟨by have := hcs.1; omega, by have := hcs.2; omega⟩ hL (fun v H locs hp hL => ?_)
  obtain ⟨rfl, hW⟩ := hp
  replace hW := hback _ _ _ _ _ hW
  refine lv_istore (lv' := [(7, .int (s_X7_pass (C 2) nl nt ng (xs (4 * k + 1))).2), (6, .int (s_x_pass (C 0) nl nt ng (xs (4 * k + 1)))), (0, .ref b), (1, .ref (ad1 5 16 0)), (2, .ref (ad1 2 14 0)), (3, .ref o), (4, .ref o2), (5, .int (nI (4 * k)))]) hx hb dL_law_707 hl (by decide) rfl (fun ls hl => ?_)
  refine lw_thr hx hb hml hown hts hK j3 hW hL z1 hl 4 1 rfl rfl ⟨by have := hcs.1; omega, by have := hcs.2; omega⟩ dL_law_709 dL_law_710 dL_law_713 dL_law_715 (fun H locs hW hL => ?_)
  refine k_more (cells' := cells + 100) (slots' := slots + 1000) (by omega) (by omega) ?_
  exact lw_cmp hx hb hK hW z3 hl 5 1 0 rfl rfl rfl (by decide) dL_law_720 dL_law_722 dL_law_725 dL_law_726 dL_law_727 dL_law_728 dL_law_730 dL_law_731 dL_law_732 dL_law_737 (kk _ _ _ ⟨n1, ad1, L1, k_g C1 2 (s_X7_pass (C 2) nl nt ng (xs (4 * k + 1))).1, nl1, nt1, ng1, ne1, f1, fd, hI1.ref _, lw_V z2, rfl, rfl, hW⟩ hL (lv_sub hl [2, 3, 4, 5, 6, 7] rfl))
