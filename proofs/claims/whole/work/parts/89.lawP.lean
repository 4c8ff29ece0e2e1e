set_option maxHeartbeats 400000 in
set_option maxRecDepth 100000 in
theorem lw_c8 : lw_case 740 := by
  intro p l e s m below meth c H locs cells slots Q ls b Ln xs X n ad L C nl nt ng ne k o o2 f fd Z hk hI hV hW hL hl hcs kk
  obtain ⟨hx, hb, hml, hown, hts, hK, hX0, hXs, hbl, hL2, hl9, hfp⟩ := Z
  have hI0 := hI
  obtain ⟨i1, i2, i3, i4, i5, i6, i7, i8, i9, i10, i11⟩ := hI

  refine lv_aload_n hx hb dL_law_740 rfl (lv_at hl 1 rfl) ?_
  obtain ⟨fr1, hF, hback⟩ := hW.freeze
  replace hF := k_self hF 0
  refine kx_callV (As := []) (rest := []) ⟨hx, hb, hml, hown, hts⟩ hK (c_X6_now X l i1 (C 0) i2 hl9) (cwV 0 hts gL_law_X6_now rfl rfl rfl (by decide +kernel) ⟨Nat.le_of_ble_eq_true rfl, Nat.le_of_ble_eq_true rfl⟩) (k_recv hK (k_ev hF) 16 0 i2.o (fun _ => rfl) rfl) hF rfl hl.1 rfl (Nat.le_of_ble_eq_true rfl) dL_law_741 ⟨by have := hcs.1; omega, by have := hcs.2; omega⟩ hL (fun E ce q H locs hp => hp.elim) (fun v H locs hp hL => ?_)
  obtain ⟨-, rfl, hF⟩ := hp
  rw [k_g_self] at hF
  refine lv_aload_n hx hb dL_law_744 rfl (lv_at hl 2 rfl) ?_
  replace hF := k_self hF 2
  refine k_callV (As := []) (rest := [.int (C 0 0 0 4)]) ⟨hx, hb, hml, hown, hts⟩ hK (c_X7_now X l i3 (C 2)) (cwV 0 hts gL_law_X7_now rfl rfl rfl (by decide +kernel) ⟨Nat.le_of_ble_eq_true rfl, Nat.le_of_ble_eq_true rfl⟩) (k_recv hK hF 14 0 i3.o (fun _ => rfl) rfl) hF rfl hl.1 rfl (Nat.le_of_ble_eq_true rfl) dL_law_745 ⟨by have := hcs.1; omega, by have := hcs.2; omega⟩ hL (fun v H locs hp hL => ?_)
  obtain ⟨rfl, hF⟩ := hp
  replace hW := hback _ _ _ _ _ hF
  refine lv_icmp_eq (tgt := 1811) hx hb dL_law_748 (by decide) (fun _ => ?_) (fun h => absurd (q_aNow hV) h)
  refine k_more (cells' := cells + 100) (slots' := slots + 1000) (by omega) (by omega) ?_
  exact kk _ _ _ ⟨n, ad, L, k_g C 2 (C 2), nl, nt, ng, ne, f, fd, (hI0.ref _).next, lw_V hV, rfl, rfl, hW⟩ hL hl
set_option maxHeartbeats 400000 in
set_option maxRecDepth 100000 in
theorem lw_c17 : lw_case 1213 := by
  intro p l e s m below meth c H locs cells slots Q ls b Ln xs X n ad L C nl nt ng ne k o o2 f fd Z hk hI hV hW hL hl hcs kk
  obtain ⟨hx, hb, hml, hown, hts, hK, hX0, hXs, hbl, hL2, hl9, hfp⟩ := Z
  have hI0 := hI
  obtain ⟨i1, i2, i3, i4, i5, i6, i7, i8, i9, i10, i11⟩ := hI

  refine lv_aload_n hx hb dL_law_1213 rfl (lv_at hl 1 rfl) ?_
  obtain ⟨fr1, hF, hback⟩ := hW.freeze
  replace hF := k_self hF 0
  refine kx_callV (As := []) (rest := []) ⟨hx, hb, hml, hown, hts⟩ hK (c_X6_leftBehind X l i1 (C 0) i2 i4 hl9) (cwV 0 hts gL_law_X6_leftBehind rfl rfl rfl (by decide +kernel) ⟨Nat.le_of_ble_eq_true rfl, Nat.le_of_ble_eq_true rfl⟩) (k_recv hK (k_ev hF) 16 0 i2.o (fun _ => rfl) rfl) hF rfl hl.1 rfl (Nat.le_of_ble_eq_true rfl) dL_law_1214 ⟨by have := hcs.1; omega, by have := hcs.2; omega⟩ hL (fun E ce q H locs hp => hp.elim) (fun v H locs hp hL => ?_)
  obtain ⟨-, rfl, hF⟩ := hp
  rw [k_g_self] at hF
  refine lv_aload_n hx hb dL_law_1217 rfl (lv_at hl 2 rfl) ?_
  replace hF := k_self hF 2
  refine k_callV (As := []) (rest := [.int (s_X0_unitsLeftBehind (C 0) nl nt ng)]) ⟨hx, hb, hml, hown, hts⟩ hK (c_X7_leftBehind X l i3 (C 2) hV.wf) (cwV 0 hts gL_law_X7_leftBehind rfl rfl rfl (by decide +kernel) ⟨Nat.le_of_ble_eq_true rfl, Nat.le_of_ble_eq_true rfl⟩) (k_recv hK hF 14 0 i3.o (fun _ => rfl) rfl) hF rfl hl.1 rfl (Nat.le_of_ble_eq_true rfl) dL_law_1218 ⟨by have := hcs.1; omega, by have := hcs.2; omega⟩ hL (fun v H locs hp hL => ?_)
  obtain ⟨rfl, hF⟩ := hp
  replace hW := hback _ _ _ _ _ hF
  refine lv_icmp_eq (tgt := 1811) hx hb dL_law_1221 (by decide) (fun _ => ?_) (fun h => absurd (q_aBehind hV) h)
  refine k_more (cells' := cells + 100) (slots' := slots + 1000) (by omega) (by omega) ?_
  exact kk _ _ _ ⟨n, ad, L, k_g C 2 (C 2), nl, nt, ng, ne, f, fd, (hI0.ref _).next, lw_V hV, rfl, rfl, hW⟩ hL hl
set_option maxHeartbeats 400000 in
set_option maxRecDepth 100000 in
theorem lw_c24 : lw_case 1585 := by
  intro p l e s m below meth c H locs cells slots Q ls b Ln xs X n ad L C nl nt ng ne k o o2 f fd Z hk hI hV hW hL hl hcs kk
  obtain ⟨hx, hb, hml, hown, hts, hK, hX0, hXs, hbl, hL2, hl9, hfp⟩ := Z
  have hI0 := hI
  obtain ⟨i1, i2, i3, i4, i5, i6, i7, i8, i9, i10, i11⟩ := hI

  refine lv_aload_n hx hb dL_law_1585 rfl (lv_at hl 1 rfl) ?_
  refine lv_aload hx hb dL_law_1586 (lv_at hl 4 rfl) ?_
  replace hW : k_N X n ad L (k_g C 0 (C 0)) (fun _ => none) [(o2, .inl (X.2.1 6, 1, .inr (.inr (.inr (.inl fd))))), (o, .inl (X.2.1 5, 1, .inr (.inl f)))] H := by rw [k_g_self]; exact hW.sub [1, 0] (by decide) rfl
  refine kx_callSX (As := [.ref (ad 5 16 0), .ref o2]) (rest := []) ⟨hx, hb, hml, hown, hts⟩ hK (c_L_meanWait X l i1 (C 0) i2 hfp hl9) (vx_cwSW 2 hts gL_law_L_meanWait rfl rfl rfl (by decide +kernel) ⟨Nat.le_of_ble_eq_true rfl, Nat.le_of_ble_eq_true rfl⟩) hW rfl hl.1 rfl (Nat.le_of_ble_eq_true rfl) dL_law_1588 ⟨by have := hcs.1; omega, by have := hcs.2; omega⟩ hL (fun E ce q H locs hp => hp.elim) (fun v H locs hp hL => ?_)
  obtain ⟨f1, rfl, hW1, hf1⟩ := lw_q2 hp
  have hW : k_N X n ad L C (fun _ => none) (lw_ws X o o2 f f1) H := hW1.sub [1, 0] (by decide) rfl
  refine lv_istore (lv' := [(6, .int (s_x_meanWait (C 0) nl nt ng)), (0, .ref b), (1, .ref (ad 5 16 0)), (2, .ref (ad 2 14 0)), (3, .ref o), (4, .ref o2), (5, .int (nI (4 * k)))]) hx hb dL_law_1591 hl (by decide) rfl (fun ls hl => ?_)
  refine lv_aload_n hx hb dL_law_1593 rfl (lv_at hl 3 rfl) ?_
  obtain ⟨fr1, hF, hback⟩ := hW.freeze
  replace hF := k_self hF 2
  refine k_callV (As := []) (rest := []) ⟨hx, hb, hml, hown, hts⟩ hK (c_X7_meanWait X l i3 (C 2) hV.wf hfp) (cwV 0 hts gL_law_X7_meanWait rfl rfl rfl (by decide +kernel) ⟨Nat.le_of_ble_eq_true rfl, Nat.le_of_ble_eq_true rfl⟩) (k_recv hK hF 14 0 i3.o (fun _ => rfl) rfl) hF rfl hl.1 rfl (Nat.le_of_ble_eq_true rfl) dL_law_1594 ⟨by have := hcs.1; omega, by have := hcs.2; omega⟩ hL (fun v H locs hp hL => ?_)
  obtain ⟨rfl, hW⟩ := hp
  replace hW := hback _ _ _ _ _ hW
  obtain ⟨z1, z2, z3⟩ := q_aMean hV
  refine lv_dstore (lv' := [(7, .double (s_X7_meanWait (C 2) nl nt ng).2), (6, .int (s_x_meanWait (C 0) nl nt ng)), (0, .ref b), (1, .ref (ad 5 16 0)), (2, .ref (ad 2 14 0)), (3, .ref o), (4, .ref o2), (5, .int (nI (4 * k)))]) hx hb dL_law_1597 hl (by decide) rfl (fun ls hl => ?_)
  refine lw_thr hx hb hml hown hts hK i3 hW hL z1 hl 4 1 rfl rfl ⟨by have := hcs.1; omega, by have := hcs.2; omega⟩ dL_law_1599 dL_law_1600 dL_law_1603 dL_law_1605 (fun H locs hW hL => ?_)
  refine k_more (cells' := cells + 100) (slots' := slots + 1000) (by omega) (by omega) ?_
  have key := (kk _ _ _ ⟨n, ad, L, k_g C 2 (s_X7_meanWait (C 2) nl nt ng).1, nl, nt, ng, ne, f, f1, (hI0.ref _).next, lw_V z2, rfl, rfl, hW⟩ hL (lv_sub hl [2, 3, 4, 5, 6, 7] rfl))
  refine lv_iload hx hb dL_law_1610 (lv_at hl 1 rfl) ?_
  refine lv_if_ne (tgt := 1647) hx hb dL_law_1612 (by decide) (fun _ => lv_goto (tgt := 1811) hx hb dL_law_1647 (by decide) key) (fun hc => ?_)
  refine lv_aload hx hb dL_law_1615 (lv_at hl 6 rfl) ?_
  refine lv_iconst (v := 0) hx hb dL_law_1617 (by decide) ?_
  refine va_dald hx hb hK.1 hW.2.1 1 6 rfl rfl (by unfold vp_in; decide) dL_law_1618 ?_
  rw [show (0 : Int32).toNatClampNeg = 0 from by decide, hf1 hc]
  refine lv_dload hx hb dL_law_1619 (lv_at hl 0 rfl) ?_
  rw [z3 hc]
  have hfin := hfp.2.2.1 _ (lw_nm hV hfp hc)
  refine lv_dcmp hx hb dL_law_1621 ?_
  rw [hfin]
  exact lv_if_eq (tgt := 1647) hx hb dL_law_1622 (by decide) (fun _ => lv_goto (tgt := 1811) hx hb dL_law_1647 (by decide) key) (fun h => absurd rfl h)
set_option maxHeartbeats 400000 in
set_option maxRecDepth 100000 in
theorem lw_c25 : lw_case 1650 := by
  intro p l e s m below meth c H locs cells slots Q ls b Ln xs X n ad L C nl nt ng ne k o o2 f fd Z hk hI hV hW hL hl hcs kk
  obtain ⟨hx, hb, hml, hown, hts, hK, hX0, hXs, hbl, hL2, hl9, hfp⟩ := Z
  have hI0 := hI
  obtain ⟨i1, i2, i3, i4, i5, i6, i7, i8, i9, i10, i11⟩ := hI

  refine lv_aload_n hx hb dL_law_1650 rfl (lv_at hl 1 rfl) ?_
  refine lv_aload hx hb dL_law_1651 (lv_at hl 4 rfl) ?_
  replace hW : k_N X n ad L (k_g C 0 (C 0)) (fun _ => none) [(o2, .inl (X.2.1 6, 1, .inr (.inr (.inr (.inl fd))))), (o, .inl (X.2.1 5, 1, .inr (.inl f)))] H := by rw [k_g_self]; exact hW.sub [1, 0] (by decide) rfl
  refine kx_callSX (As := [.ref (ad 5 16 0), .ref o2]) (rest := []) ⟨hx, hb, hml, hown, hts⟩ hK (c_L_dockShare X l i1 (C 0) i2 hfp hl9) (vx_cwSW 2 hts gL_law_L_dockShare rfl rfl rfl (by decide +kernel) ⟨Nat.le_of_ble_eq_true rfl, Nat.le_of_ble_eq_true rfl⟩) hW rfl hl.1 rfl (Nat.le_of_ble_eq_true rfl) dL_law_1653 ⟨by have := hcs.1; omega, by have := hcs.2; omega⟩ hL (fun E ce q H locs hp => hp.elim) (fun v H locs hp hL => ?_)
  obtain ⟨f1, rfl, hW1, hf1⟩ := lw_q2 hp
  have hW : k_N X n ad L C (fun _ => none) (lw_ws X o o2 f f1) H := hW1.sub [1, 0] (by decide) rfl
  refine lv_istore (lv' := [(6, .int (s_x_dockShare (C 0) nl nt ng)), (0, .ref b), (1, .ref (ad 5 16 0)), (2, .ref (ad 2 14 0)), (3, .ref o), (4, .ref o2), (5, .int (nI (4 * k)))]) hx hb dL_law_1656 hl (by decide) rfl (fun ls hl => ?_)
  refine lv_aload_n hx hb dL_law_1658 rfl (lv_at hl 3 rfl) ?_
  obtain ⟨fr1, hF, hback⟩ := hW.freeze
  replace hF := k_self hF 2
  refine k_callV (As := []) (rest := []) ⟨hx, hb, hml, hown, hts⟩ hK (c_X7_dockShare X l i3 (C 2) hV.wf hfp) (cwV 0 hts gL_law_X7_dockShare rfl rfl rfl (by decide +kernel) ⟨Nat.le_of_ble_eq_true rfl, Nat.le_of_ble_eq_true rfl⟩) (k_recv hK hF 14 0 i3.o (fun _ => rfl) rfl) hF rfl hl.1 rfl (Nat.le_of_ble_eq_true rfl) dL_law_1659 ⟨by have := hcs.1; omega, by have := hcs.2; omega⟩ hL (fun v H locs hp hL => ?_)
  obtain ⟨rfl, hW⟩ := hp
  replace hW := hback _ _ _ _ _ hW
  obtain ⟨z1, z2, z3⟩ := q_aShare hV
  refine lv_fstore (lv' := [(7, .float (s_X7_dockShare (C 2) nl nt ng).2), (6, .int (s_x_dockShare (C 0) nl nt ng)), (0, .ref b), (1, .ref (ad 5 16 0)), (2, .ref (ad 2 14 0)), (3, .ref o), (4, .ref o2), (5, .int (nI (4 * k)))]) hx hb dL_law_1662 hl (by decide) rfl (fun ls hl => ?_)
  refine lw_thr hx hb hml hown hts hK i3 hW hL z1 hl 4 1 rfl rfl ⟨by have := hcs.1; omega, by have := hcs.2; omega⟩ dL_law_1664 dL_law_1665 dL_law_1668 dL_law_1670 (fun H locs hW hL => ?_)
  refine k_more (cells' := cells + 100) (slots' := slots + 1000) (by omega) (by omega) ?_
  have key := (kk _ _ _ ⟨n, ad, L, k_g C 2 (s_X7_dockShare (C 2) nl nt ng).1, nl, nt, ng, ne, f, f1, (hI0.ref _).next, lw_V z2, rfl, rfl, hW⟩ hL (lv_sub hl [2, 3, 4, 5, 6, 7] rfl))
  refine lv_iload hx hb dL_law_1675 (lv_at hl 1 rfl) ?_
  refine lv_if_ne (tgt := 1713) hx hb dL_law_1677 (by decide) (fun _ => lv_goto (tgt := 1811) hx hb dL_law_1713 (by decide) key) (fun hc => ?_)
  refine lv_aload hx hb dL_law_1680 (lv_at hl 6 rfl) ?_
  refine lv_iconst (v := 0) hx hb dL_law_1682 (by decide) ?_
  refine va_dald hx hb hK.1 hW.2.1 1 6 rfl rfl (by unfold vp_in; decide) dL_law_1683 ?_
  rw [show (0 : Int32).toNatClampNeg = 0 from by decide, hf1 hc]
  refine lv_fload hx hb dL_law_1684 (lv_at hl 0 rfl) ?_
  rw [z3 hc]
  refine lv_f2d hx hb dL_law_1686 (lw_nd hV hfp hc) ?_
  have hfin := hfp.2.2.1 _ (lw_nd hV hfp hc)
  refine lv_dcmp hx hb dL_law_1687 ?_
  rw [hfin]
  exact lv_if_eq (tgt := 1713) hx hb dL_law_1688 (by decide) (fun _ => lv_goto (tgt := 1811) hx hb dL_law_1713 (by decide) key) (fun h => absurd rfl h)
set_option maxHeartbeats 400000 in
set_option maxRecDepth 100000 in
theorem lw_c26 : lw_case 1716 := by
  intro p l e s m below meth c H locs cells slots Q ls b Ln xs X n ad L C nl nt ng ne k o o2 f fd Z hk hI hV hW hL hl hcs kk
  obtain ⟨hx, hb, hml, hown, hts, hK, hX0, hXs, hbl, hL2, hl9, hfp⟩ := Z
  have hI0 := hI
  obtain ⟨i1, i2, i3, i4, i5, i6, i7, i8, i9, i10, i11⟩ := hI

  refine lv_aload_n hx hb dL_law_1716 rfl (lv_at hl 1 rfl) ?_
  obtain ⟨fr1, hF, hback⟩ := hW.freeze
  replace hF := k_self hF 0
  refine kx_callV (As := []) (rest := []) ⟨hx, hb, hml, hown, hts⟩ hK (c_X6_ways X l i1 (C 0) i2 i4 hl9) (cwV 0 hts gL_law_X6_ways rfl rfl rfl (by decide +kernel) ⟨Nat.le_of_ble_eq_true rfl, Nat.le_of_ble_eq_true rfl⟩) (k_recv hK (k_ev hF) 16 0 i2.o (fun _ => rfl) rfl) hF rfl hl.1 rfl (Nat.le_of_ble_eq_true rfl) dL_law_1717 ⟨by have := hcs.1; omega, by have := hcs.2; omega⟩ hL (fun E ce q H locs hp => hp.elim) (fun v H locs hp hL => ?_)
  obtain ⟨-, rfl, hF⟩ := hp
  rw [k_g_self] at hF
  refine lv_aload_n hx hb dL_law_1720 rfl (lv_at hl 2 rfl) ?_
  replace hF := k_self hF 2
  refine k_callV (As := []) (rest := [.int (s_X0_waysOfTransfers (C 0) nl nt ng)]) ⟨hx, hb, hml, hown, hts⟩ hK (c_X7_ways X l i3 (C 2) hV.wf) (cwV 0 hts gL_law_X7_ways rfl rfl rfl (by decide +kernel) ⟨Nat.le_of_ble_eq_true rfl, Nat.le_of_ble_eq_true rfl⟩) (k_recv hK hF 14 0 i3.o (fun _ => rfl) rfl) hF rfl hl.1 rfl (Nat.le_of_ble_eq_true rfl) dL_law_1721 ⟨by have := hcs.1; omega, by have := hcs.2; omega⟩ hL (fun v H locs hp hL => ?_)
  obtain ⟨rfl, hF⟩ := hp
  replace hW := hback _ _ _ _ _ hF
  refine lv_icmp_eq (tgt := 1811) hx hb dL_law_1724 (by decide) (fun _ => ?_) (fun h => absurd (q_aWays hV) h)
  refine k_more (cells' := cells + 100) (slots' := slots + 1000) (by omega) (by omega) ?_
  exact kk _ _ _ ⟨n, ad, L, k_g C 2 (C 2), nl, nt, ng, ne, f, fd, (hI0.ref _).next, lw_V hV, rfl, rfl, hW⟩ hL hl
set_option maxHeartbeats 400000 in
set_option maxRecDepth 100000 in
theorem lw_c27 : lw_case 1729 := by
  intro p l e s m below meth c H locs cells slots Q ls b Ln xs X n ad L C nl nt ng ne k o o2 f fd Z hk hI hV hW hL hl hcs kk
  obtain ⟨hx, hb, hml, hown, hts, hK, hX0, hXs, hbl, hL2, hl9, hfp⟩ := Z
  have hI0 := hI
  obtain ⟨i1, i2, i3, i4, i5, i6, i7, i8, i9, i10, i11⟩ := hI

  refine lv_aload_n hx hb dL_law_1729 rfl (lv_at hl 1 rfl) ?_
  obtain ⟨fr1, hF, hback⟩ := hW.freeze
  replace hF := k_self hF 0
  refine kx_callV (As := []) (rest := []) ⟨hx, hb, hml, hown, hts⟩ hK (c_X6_leastWays X l i1 (C 0) i2 i4 i6 i7 hl9) (cwV 0 hts gL_law_X6_leastWays rfl rfl rfl (by decide +kernel) ⟨Nat.le_of_ble_eq_true rfl, Nat.le_of_ble_eq_true rfl⟩) (k_recv hK (k_ev hF) 16 0 i2.o (fun _ => rfl) rfl) hF rfl hl.1 rfl (Nat.le_of_ble_eq_true rfl) dL_law_1730 ⟨by have := hcs.1; omega, by have := hcs.2; omega⟩ hL (fun E ce q H locs hp => hp.elim) (fun v H locs hp hL => ?_)
  obtain ⟨-, rfl, hF⟩ := hp
  rw [k_g_self] at hF
  refine lv_aload_n hx hb dL_law_1733 rfl (lv_at hl 2 rfl) ?_
  replace hF := k_self hF 2
  refine k_callV (As := []) (rest := [.int (s_plan (C 0) nl nt ng 21 0 5)]) ⟨hx, hb, hml, hown, hts⟩ hK (c_X7_leastWays X l i3 (C 2) hV.wf) (cwV 0 hts gL_law_X7_leastWays rfl rfl rfl (by decide +kernel) ⟨Nat.le_of_ble_eq_true rfl, Nat.le_of_ble_eq_true rfl⟩) (k_recv hK hF 14 0 i3.o (fun _ => rfl) rfl) hF rfl hl.1 rfl (Nat.le_of_ble_eq_true rfl) dL_law_1734 ⟨by have := hcs.1; omega, by have := hcs.2; omega⟩ hL (fun v H locs hp hL => ?_)
  obtain ⟨rfl, hF⟩ := hp
  replace hW := hback _ _ _ _ _ hF
  refine lv_icmp_eq (tgt := 1811) hx hb dL_law_1737 (by decide) (fun _ => ?_) (fun h => absurd (q_aLeast hV) h)
  refine k_more (cells' := cells + 100) (slots' := slots + 1000) (by omega) (by omega) ?_
  exact kk _ _ _ ⟨n, ad, L, k_g C 2 (s_X7_leastWays (C 2) nl nt ng).1, nl, nt, ng, ne, f, fd, (hI0.ref _).next, lw_V (q_both hV).2.2.1, rfl, rfl, hW⟩ hL hl
set_option maxHeartbeats 400000 in
set_option maxRecDepth 100000 in
theorem lw_c29 : lw_case 1798 := by
  intro p l e s m below meth c H locs cells slots Q ls b Ln xs X n ad L C nl nt ng ne k o o2 f fd Z hk hI hV hW hL hl hcs kk
  obtain ⟨hx, hb, hml, hown, hts, hK, hX0, hXs, hbl, hL2, hl9, hfp⟩ := Z
  have hI0 := hI
  obtain ⟨i1, i2, i3, i4, i5, i6, i7, i8, i9, i10, i11⟩ := hI

  refine lv_aload_n hx hb dL_law_1798 rfl (lv_at hl 1 rfl) ?_
  obtain ⟨fr1, hF, hback⟩ := hW.freeze
  replace hF := k_self hF 0
  refine k_callV (As := []) (rest := []) ⟨hx, hb, hml, hown, hts⟩ hK (c_X6_isSound X l i1 (C 0) i2 (by omega) i8 i10 i11 (fun i hi => hV.C.n hi) (q_hsum hV) (q_bal0 hV)) (cwV 0 hts gL_law_X6_isSound rfl rfl rfl (by decide +kernel) ⟨Nat.le_of_ble_eq_true rfl, Nat.le_of_ble_eq_true rfl⟩) (k_recv hK (k_ev hF) 16 0 i2.o (fun _ => rfl) rfl) hF rfl hl.1 rfl (Nat.le_of_ble_eq_true rfl) dL_law_1799 ⟨by have := hcs.1; omega, by have := hcs.2; omega⟩ hL (fun v H locs hp hL => ?_)
  obtain ⟨rfl, hF⟩ := hp
  rw [k_g_self] at hF
  refine lv_aload_n hx hb dL_law_1802 rfl (lv_at hl 2 rfl) ?_
  replace hF := k_self hF 2
  refine k_callV (As := []) (rest := [.int (1)]) ⟨hx, hb, hml, hown, hts⟩ hK (c_X7_isSound X l i3 (C 2)) (cwV 0 hts gL_law_X7_isSound rfl rfl rfl (by decide +kernel) ⟨Nat.le_of_ble_eq_true rfl, Nat.le_of_ble_eq_true rfl⟩) (k_recv hK hF 14 0 i3.o (fun _ => rfl) rfl) hF rfl hl.1 rfl (Nat.le_of_ble_eq_true rfl) dL_law_1803 ⟨by have := hcs.1; omega, by have := hcs.2; omega⟩ hL (fun v H locs hp hL => ?_)
  obtain ⟨rfl, hF⟩ := hp
  replace hW := hback _ _ _ _ _ hF
  refine lv_icmp_eq (tgt := 1811) hx hb dL_law_1806 (by decide) (fun _ => ?_) (fun h => absurd (rfl) h)
  refine k_more (cells' := cells + 100) (slots' := slots + 1000) (by omega) (by omega) ?_
  exact kk _ _ _ ⟨n, ad, L, k_g C 2 (C 2), nl, nt, ng, ne, f, fd, (hI0.ref _).next, lw_V hV, rfl, rfl, hW⟩ hL hl
